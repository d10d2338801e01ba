/-! THE MODEL'S READER: a whole statement -/
theorem val_in {T : Int → Int} {n : Int} {L : List Tok} {i : Nat} (O : TxO T n) (LX : LexA T n L) (h : i < L.length) : 0 ≤ (tk L i).2.2.2 ∧ (tk L i).2.2.2 < 1073741824 := by
  have z := (LX.tl O).2.1 i h
  have z4 := z.2.2.2
  omega
section MSS
variable {d : Nat} {h0 : PH} {q : PQ} {T : Int → Int} {n : Int} {G : List Sns} {L : List Tok} {i : Nat} {r : Rst}
/-- the code begins with a letter at 66.2 -/
theorem ms_187 {h : PH} {g : Int} {w1 w2 w3 : Option PV} (O : TxO T n) (LX : LexA T n L) (S : Shape h) (R : StA h0 h T n G (prgG G)) (i3 : i + 3 < L.length) (k3 : (tk L (i + 3)).1 = 3) (g2 : gv h 66 2 = (tk L (i + 3)).2.1 + 1) (let1 : isLet (T ((tk L (i + 3)).2.1 + 1))) (g40 : G.length < 40) (hg : g = G.length) (pl : (prgG G).length ≤ i)
    (n80 : gv h 80 G.length = (tk L (i + 1)).2.2.2) (D : StR L G i r) (w : isWd L i 20101733) (m : NmOk L G (i + 1)) (v : isWd L (i + 2) 307)
    (K1 : ∀ j s, r = .inl (j, s) → ∀ h', (StA h0 h' T n (G ++ [s]) (prgG (G ++ [s])) ∧ MAt h' T n L j) → Shape h' → q none h') (K2 : ∀ k p, r = .inr (k, p) → ∀ h', BdE h0 h' k p → Shape h' → q none h') :
    Wp (d + 9) 0 0 M_X12_statement 187 [some (.inr (.inr 66)), some (.inl g), w1, w2, w3] [] h q := by
  have n7 := O.1
  have B := LX.tl O
  have l7 := B.1
  have TA := LX.tok O i3
  have t2 := TA.2.1
  obtain ⟨he, hv, en, sn⟩ := (TA.cd O).2 k3
  have b5 := R.2.2.2.2
  have vb := val_in O LX i3
  have e1 : (tk L (i + 3)).2.1 + 1 < (tk L (i + 3)).2.2.1 := by
    obtain ⟨a, b, c⟩ := he
    apply Decidable.byContradiction
    intro z
    rw [show (tk L (i + 3)).2.2.1 = (tk L (i + 3)).2.1 + 1 by omega] at c
    exact c let1
  refine p_aload 188 rfl rfl rfl ?_
  refine p_getfr (j := 22) (z := 81) 191 rfl rfl rfl (tg_66 S) rfl (fi_66_22 S) ?_
  refine p_iload 192 rfl rfl rfl ?_
  refine p_aload 193 rfl rfl rfl ?_
  refine p_getfi (j := 5) (z := gv h 66 5) 196 rfl rfl rfl (tg_66 S) rfl rfl ?_
  refine p_if_ne_f 199 rfl rfl (by omega) ?_
  refine p_aload 200 rfl rfl rfl ?_
  refine p_const 201 rfl rfl ?_
  refine p_callv (le := [some (.inr (.inr 66)), some (.inl 4), none, none, none]) (as := [.inr (.inr 66), .inl 4]) (rest := [.inl g, .inr (.inr 81)]) 204 0 0 0 0 rfl rfl (Nat.le_of_ble_eq_true rfl) rfl (Nat.le_of_ble_eq_true rfl) rfl rfl (Nat.le_of_ble_eq_true rfl) rfl (Nat.le_of_ble_eq_true rfl) rfl (Nat.le_refl _) (Nat.le_refl _) rfl rfl (tg_66 S) ?_
  refine m_letters S 4 O R.2.1.1 g2 b5 (by omega) (by omega) (by decide) (by decide) (fun r1 y1 p1 S1 => ?_)
  show Wp (d + 9) 0 0 M_X12_statement 204 [some (.inr (.inr 66)), some (.inl g), w1, w2, w3] [.inr (.inl r1), .inl g, .inr (.inr 81)] y1 _
  obtain ⟨k7, e, he2, en2, cs⟩ := p1
  have ee : e = (tk L (i + 3)).2.2.1 := he2.same he
  subst ee
  have ev : (tk L (i + 3)).2.2.1 - ((tk L (i + 3)).2.1 + 1) ≤ 4 → (tk L (i + 3)).2.2.2 = wv T ((tk L (i + 3)).2.1 + 1) ((tk L (i + 3)).2.2.1 - ((tk L (i + 3)).2.1 + 1)).toNat := fun a => by rw [hv]; unfold wq; rw [if_pos (by omega)]
  have rb : 0 ≤ r1 ∧ r1 < 1073741824 := by rcases cs with ⟨a, b, _⟩ | ⟨_, b, _⟩; rw [b, ← ev a]; exact vb; omega
  refine p_l2i (z := r1) 205 rfl rfl (w32_id ⟨(by omega), (by omega)⟩) ?_
  refine p_goto 209 rfl rfl ?_
  refine p_iast (w := 8040) 210 rfl rfl (by decide) (tg_81 S1) (ln_81 S1) (by omega) (by omega) ?_
  refine p_nmh (fun y2 e2 => ?_)
  have S2 : Shape y2 := by rw [e2]; exact S1.svA fa_81 _ _
  -- leaf 1: loop 210 [some (.inr (.inr 66)), some (.inl g), w1, w2, w3] st=[] h=y2 e2
  rcases cs with ⟨a, b, c4, d4, b1, e66⟩ | ⟨a, b, c4, d4, b1, b6⟩
  · have k := k7.wide lsr_nmA
    have R2 : StA h0 y2 T n G (prgG G) := by rw [e2]; exact (R.kp k b1 e66).row g40 hg (by decide) (by decide)
    have M1 : MAt y1 T n L (i + 4) := MAt.word O LX (B.nx i3 (by rw [k3]; decide)).1 (Or.inr (Or.inr ⟨k3, he.2.2⟩)) (by omega) c4 d4
    have M2 : MAt y2 T n L (i + 4) := by rw [e2]; exact M1.row (by decide)
    exact ms_210 O LX S2 R2 M2 g40 hg pl (by rw [e2, sv_ne (by decide)]; exact (k7.1 80 _ (decide_eq_false (by omega))).trans n80) (by rw [e2, hg, sv_eq, b, ← ev a]) D w m v ⟨k3, by omega, by omega⟩ K1 K2
  · have er := D.code w m v (k := 1) (p := (tk L (i + 3)).2.1 + 1 + 4) (Or.inr (Or.inr ⟨k3, by omega, rfl, rfl⟩))
    exact ms_210b S2 (by rw [e2]; exact (R.bd (k7.wide lsr_nmA) b1 (by decide) b6 (by omega)).row g40 hg (by decide) (by decide)) g40 hg (K2 _ _ er)
theorem ms_145 {h : PH} {g : Int} {w1 w2 w3 : Option PV} (O : TxO T n) (LX : LexA T n L) (S : Shape h) (R : StA h0 h T n G (prgG G)) (i3 : i + 3 < L.length) (k3 : (tk L (i + 3)).1 = 3) (g2 : gv h 66 2 = (tk L (i + 3)).2.1 + 1) (g40 : G.length < 40) (hg : g = G.length) (pl : (prgG G).length ≤ i)
    (n80 : gv h 80 G.length = (tk L (i + 1)).2.2.2) (D : StR L G i r) (w : isWd L i 20101733) (m : NmOk L G (i + 1)) (v : isWd L (i + 2) 307)
    (K1 : ∀ j s, r = .inl (j, s) → ∀ h', (StA h0 h' T n (G ++ [s]) (prgG (G ++ [s])) ∧ MAt h' T n L j) → Shape h' → q none h') (K2 : ∀ k p, r = .inr (k, p) → ∀ h', BdE h0 h' k p → Shape h' → q none h') :
    Wp (d + 9) 0 0 M_X12_statement 145 [some (.inr (.inr 66)), some (.inl g), w1, w2, w3] [] h q := by
  have n7 := O.1
  have l7 := (LX.tl O).1
  have TA := LX.tok O i3
  have t2 := TA.2.1
  obtain ⟨he, hv, en, sn⟩ := (TA.cd O).2 k3
  have b5 := R.2.2.2.2
  have g3 : gv h 66 3 = n := R.2.1.1.1
  have gT : (tk L (i + 3)).2.1 + 1 < n → gv h 67 ((tk L (i + 3)).2.1 + 1) = T ((tk L (i + 3)).2.1 + 1) := fun z => R.2.1.1.2 _ (by omega) z
  have J178 : ¬ isLet (T ((tk L (i + 3)).2.1 + 1)) → Wp (d + 9) 0 0 M_X12_statement 178 [some (.inr (.inr 66)), some (.inl g), w1, w2, w3] [] h q := by
    intro nl
    have est : (tk L (i + 3)).2.2.1 = (tk L (i + 3)).2.1 + 1 := by
      obtain ⟨a, b, c⟩ := he
      apply Decidable.byContradiction
      intro z
      exact nl (b _ (Int.le_refl _) (by omega))
    have er := D.code w m v (k := 1) (p := (tk L (i + 3)).2.1 + 1) (Or.inr (Or.inl ⟨k3, by omega, rfl, est.symm⟩))
    refine p_aload 179 rfl rfl rfl ?_
    refine p_const 180 rfl rfl ?_
    refine p_aload 181 rfl rfl rfl ?_
    refine p_getfi (j := 2) (z := (tk L (i + 3)).2.1 + 1) 184 rfl rfl rfl (tg_66 S) rfl g2 ?_
    refine p_callv (le := [some (.inr (.inr 66)), some (.inl 1), some (.inl ((tk L (i + 3)).2.1 + 1))]) (as := [.inr (.inr 66), .inl 1, .inl ((tk L (i + 3)).2.1 + 1)]) (rest := []) 187 0 0 0 0 rfl rfl (Nat.le_of_ble_eq_true rfl) rfl (Nat.le_of_ble_eq_true rfl) rfl rfl (Nat.le_of_ble_eq_true rfl) rfl (Nat.le_of_ble_eq_true rfl) rfl (Nat.le_refl _) (Nat.le_refl _) rfl rfl (tg_66 S) ?_
    refine p_aload 1 rfl rfl rfl ?_
    refine p_getfi (j := 5) (z := gv h 66 5) 4 rfl rfl rfl (tg_66 S) rfl rfl ?_
    refine p_if_eq_t 8 rfl rfl (by omega) ?_
    refine p_aload 9 rfl rfl rfl ?_
    refine p_iload 10 rfl rfl rfl ?_
    refine p_putfi (j := 5) 13 rfl rfl rfl (fun z => absurd z (by decide)) (tg_66 S) rfl ?_
    refine p_nmh (fun y1 e1 => ?_)
    have S1 : Shape y1 := by rw [e1]; exact S.svF ff_66_5 _
    refine p_aload 14 rfl rfl rfl ?_
    refine p_iload 15 rfl rfl rfl ?_
    refine p_putfi (j := 6) 18 rfl rfl rfl (fun z => absurd z (by decide)) (tg_66 S1) rfl ?_
    refine p_nmh (fun y2 e2 => ?_)
    have S2 : Shape y2 := by rw [e2]; exact S1.svF ff_66_6 _
    refine p_ret rfl rfl ?_
    show Wp (d + 9) 0 0 M_X12_statement 187 [some (.inr (.inr 66)), some (.inl g), w1, w2, w3] [] y2 _
    -- leaf 1: loop 187 [some (.inr (.inr 66)), some (.inl g), w1, w2, w3] st=[] h=y2 e2,e1
    exact ms_187b S2 (R.bd (by rw [e2, e1]; exact ((Keep.rf _ _).sv rfl _).sv rfl _) (by rw [e2, sv_nf (by decide), e1, sv_eq]) (by decide) (by rw [e2, sv_eq]) (by omega)) g40 hg (K2 _ _ er)
  refine p_aload 146 rfl rfl rfl ?_
  refine p_getfi (j := 5) (z := gv h 66 5) 149 rfl rfl rfl (tg_66 S) rfl rfl ?_
  refine p_if_ne_f 152 rfl rfl (by omega) ?_
  refine p_aload 153 rfl rfl rfl ?_
  refine p_getfi (j := 2) (z := (tk L (i + 3)).2.1 + 1) 156 rfl rfl rfl (tg_66 S) rfl g2 ?_
  refine p_aload 157 rfl rfl rfl ?_
  refine p_getfi (j := 3) (z := n) 160 rfl rfl rfl (tg_66 S) rfl g3 ?_
  refine p_ic_ge 163 178 rfl rfl rfl (fun c1 => ?_) (fun c1 => ?_)
  · skip
    -- leaf 1: loop 178 [some (.inr (.inr 66)), some (.inl g), w1, w2, w3] st=[] h=h 
    exact J178 (fun z => by have := O.2.2 ((tk L (i + 3)).2.1 + 1) (by omega); omega)
  · skip
    refine p_aload 164 rfl rfl rfl ?_
    refine p_getfr (j := 0) (z := 67) 167 rfl rfl rfl (tg_66 S) rfl (fi_66_0 S) ?_
    refine p_aload 168 rfl rfl rfl ?_
    refine p_getfi (j := 2) (z := (tk L (i + 3)).2.1 + 1) 171 rfl rfl rfl (tg_66 S) rfl g2 ?_
    refine p_iald (w := 700) (z := gv h 67 ((tk L (i + 3)).2.1 + 1)) 172 rfl rfl (tg_67 S) (ln_67 S) (by omega) (by omega) rfl ?_
    refine p_calls (le := [some (.inl (gv h 67 ((tk L (i + 3)).2.1 + 1)))]) (as := [.inl (gv h 67 ((tk L (i + 3)).2.1 + 1))]) (rest := []) 175 0 0 0 0 rfl rfl (Nat.le_of_ble_eq_true rfl) rfl (Nat.le_of_ble_eq_true rfl) rfl rfl (Nat.le_of_ble_eq_true rfl) rfl (Nat.le_of_ble_eq_true rfl) rfl (Nat.le_refl _) (Nat.le_refl _) rfl rfl ?_
    refine p_iload 1 rfl rfl rfl ?_
    refine p_const 3 rfl rfl ?_
    refine p_ic_lt 6 16 rfl rfl rfl (fun c2 => ?_) (fun c2 => ?_)
    · skip
      refine p_const 17 rfl rfl ?_
      refine p_zret rfl rfl (by decide) ?_
      show Wp (d + 9) 0 0 M_X12_statement 175 [some (.inr (.inr 66)), some (.inl g), w1, w2, w3] [.inl 0] h _
      refine p_if_ne_f 178 rfl rfl (by decide) ?_
      -- leaf 2: loop 178 [some (.inr (.inr 66)), some (.inl g), w1, w2, w3] st=[] h=h 
      exact J178 (fun z => by have := gT (by omega); omega)
    · skip
      refine p_iload 7 rfl rfl rfl ?_
      refine p_const 9 rfl rfl ?_
      refine p_ic_gt 12 16 rfl rfl rfl (fun c3 => ?_) (fun c3 => ?_)
      · skip
        refine p_const 17 rfl rfl ?_
        refine p_zret rfl rfl (by decide) ?_
        show Wp (d + 9) 0 0 M_X12_statement 175 [some (.inr (.inr 66)), some (.inl g), w1, w2, w3] [.inl 0] h _
        refine p_if_ne_f 178 rfl rfl (by decide) ?_
        -- leaf 3: loop 178 [some (.inr (.inr 66)), some (.inl g), w1, w2, w3] st=[] h=h 
        exact J178 (fun z => by have := gT (by omega); omega)
      · skip
        refine p_const 13 rfl rfl ?_
        refine p_goto 17 rfl rfl ?_
        refine p_zret rfl rfl (by decide) ?_
        show Wp (d + 9) 0 0 M_X12_statement 175 [some (.inr (.inr 66)), some (.inl g), w1, w2, w3] [.inl 1] h _
        refine p_if_ne_t 187 rfl rfl (by decide) ?_
        -- leaf 4: loop 187 [some (.inr (.inr 66)), some (.inl g), w1, w2, w3] st=[] h=h 
        exact ms_187 O LX S R i3 k3 g2 (by have := gT (by omega); omega) g40 hg pl n80 D w m v K1 K2
theorem ms_131 {h : PH} {g : Int} {w1 w2 w3 : Option PV} (O : TxO T n) (LX : LexA T n L) (S : Shape h) (R : StA h0 h T n G (prgG G)) (M : MAt h T n L (i + 2)) (g40 : G.length < 40) (hg : g = G.length) (pl : (prgG G).length ≤ i)
    (n80 : gv h 80 G.length = (tk L (i + 1)).2.2.2) (D : StR L G i r) (w : isWd L i 20101733) (m : NmOk L G (i + 1))
    (K1 : ∀ j s, r = .inl (j, s) → ∀ h', (StA h0 h' T n (G ++ [s]) (prgG (G ++ [s])) ∧ MAt h' T n L j) → Shape h' → q none h') (K2 : ∀ k p, r = .inr (k, p) → ∀ h', BdE h0 h' k p → Shape h' → q none h') :
    Wp (d + 9) 0 0 M_X12_statement 131 [some (.inr (.inr 66)), some (.inl g), w1, w2, w3] [] h q := by
  have l7 := (LX.tl O).1
  have i7 := M.1
  have goD : ∀ y : PH, StA h0 y T n G (prgG G) → MAt y T n L (i + 3) → gv y 80 G.length = (tk L (i + 1)).2.2.2 → isWd L (i + 2) 307 → Shape y → Wp (d + 8) 0 0 M_X12_asksSign 0 [some (.inr (.inr 66)), some (.inl 46)] [] y (fun r h' => Wp (d + 9) 0 0 M_X12_statement 145 [some (.inr (.inr 66)), some (.inl g), w1, w2, w3] (r.toList ++ []) h' q) := by
    intro y Ry My m80 v Sy
    refine m_asksDot Sy O Ry.2.1.1 LX My Ry.2.2.2.2 (fun y2 p S2 => ?_) (fun y2 p S2 => ?_)
    · have k := p.1.wide lukA_nmA
      exact ms_145 O LX S2 (Ry.kp k ((p.1.1 66 5 rfl).trans Ry.2.2.2.2) (p.1.1 66 6 rfl)) My.1 p.2.1 p.2.2 g40 hg pl ((p.1.1 80 _ (decide_eq_false (by omega))).trans m80) D w m v K1 K2
    · exact ms_145b S2 (Ry.bd p.1 p.2.2.1 (by decide) p.2.2.2 (by omega)) g40 hg (K2 _ _ (D.code w m v (Or.inl ⟨p.2.1, rfl, rfl⟩)))
  have J139 : ∀ y : PH, StA h0 y T n G (prgG G) → MAt y T n L (i + 3) → gv y 80 G.length = (tk L (i + 1)).2.2.2 → isWd L (i + 2) 307 → Shape y → Wp (d + 9) 0 0 M_X12_statement 139 [some (.inr (.inr 66)), some (.inl g), w1, w2, w3] [] y q := by
    intro y Ry My m80 v Sy
    refine p_aload 140 rfl rfl rfl ?_
    refine p_const 142 rfl rfl ?_
    refine p_callv (le := [some (.inr (.inr 66)), some (.inl 46)]) (as := [.inr (.inr 66), .inl 46]) (rest := []) 145 0 0 0 0 rfl rfl (Nat.le_of_ble_eq_true rfl) rfl (Nat.le_of_ble_eq_true rfl) rfl rfl (Nat.le_of_ble_eq_true rfl) rfl (Nat.le_of_ble_eq_true rfl) rfl (Nat.le_refl _) (Nat.le_refl _) rfl rfl (tg_66 Sy) ?_
    exact goD y Ry My m80 v Sy
  have go : Wp (d + 8) 0 0 M_X12_asks 0 [some (.inr (.inr 66)), some (.inr (.inr 69))] [] h (fun r h' => Wp (d + 9) 0 0 M_X12_statement 139 [some (.inr (.inr 66)), some (.inl g), w1, w2, w3] (r.toList ++ []) h' q) := by
    refine m_asksW S 69 R.2.1.2.2.1 (by decide) O R.2.1.1 LX M R.2.2.2.2 (fun y p S2 => ?_) (fun y p S2 => ?_)
    · have v : isWd L (i + 2) 307 := by have z := p.2.1; rw [w_is] at z; exact z
      exact J139 y (R.kp (p.1.wide tkA_nmA) ((p.1.1 66 5 rfl).trans R.2.2.2.2) (p.1.1 66 6 rfl)) p.2.2 ((p.1.1 80 _ (decide_eq_false (by omega))).trans n80) v S2
    · have nv : ¬ isWd L (i + 2) 307 := by have z := p.2.1; rw [w_is] at z; exact z
      exact ms_139b S2 (R.bd p.1 p.2.2.1 (by decide) p.2.2.2 (by omega)) g40 hg (K2 _ _ (D.is w m nv))
  refine p_aload 132 rfl rfl rfl ?_
  refine p_aload 133 rfl rfl rfl ?_
  refine p_getfr (j := 10) (z := 69) 136 rfl rfl rfl (tg_66 S) rfl (fi_66_10 S) ?_
  refine p_callv (le := [some (.inr (.inr 66)), some (.inr (.inr 69))]) (as := [.inr (.inr 66), .inr (.inr 69)]) (rest := []) 139 0 0 0 0 rfl rfl (Nat.le_of_ble_eq_true rfl) rfl (Nat.le_of_ble_eq_true rfl) rfl rfl (Nat.le_of_ble_eq_true rfl) rfl (Nat.le_of_ble_eq_true rfl) rfl (Nat.le_refl _) (Nat.le_refl _) rfl rfl (tg_66 S) ?_
  exact go
theorem ms_60 {h : PH} {g : Int} (O : TxO T n) (LX : LexA T n L) (S : Shape h) (R : StA h0 h T n G (prgG G)) (M : MAt h T n L (i + 1)) (g40 : G.length < 40) (hg : g = G.length) (pl : (prgG G).length ≤ i) (mx : Mx6 G)
    (D : StR L G i r) (w : isWd L i 20101733)
    (K1 : ∀ j s, r = .inl (j, s) → ∀ h', (StA h0 h' T n (G ++ [s]) (prgG (G ++ [s])) ∧ MAt h' T n L j) → Shape h' → q none h') (K2 : ∀ k p, r = .inr (k, p) → ∀ h', BdE h0 h' k p → Shape h' → q none h') :
    Wp (d + 9) 0 0 M_X12_statement 60 [some (.inr (.inr 66)), some (.inl g), some (.inl (tk L (i + 1)).2.1), none, none] [] h q := by
  have l7 := (LX.tl O).1
  have i7 := M.1
  have bad : ∀ (y : PH) (k p ct : Int) (w3 : Option PV), BdA h0 y G k p → r = .inr (k, p) → Shape y → Wp (d + 9) 0 0 M_X12_statement 112 [some (.inr (.inr 66)), some (.inl g), some (.inl (tk L (i + 1)).2.1), some (.inl ct), w3] [] y q := by
    intro y k p ct w3 B er Sy
    have b5 := B.2.1
    have b5' := B.2.2.1
    refine p_aload 113 rfl rfl rfl ?_
    refine p_getfi (j := 5) (z := gv y 66 5) 116 rfl rfl rfl (tg_66 Sy) rfl rfl ?_
    refine p_if_ne_t 131 rfl rfl (by omega) ?_
    -- leaf 1: loop 131 [some (.inr (.inr 66)), some (.inl g), some (.inl ((tk L (i + 1)).2.1)), some (.inl ct), w3] st=[] h=y 
    exact ms_131b Sy B g40 hg (K2 _ _ er)
  have good : ∀ (y : PH) (ct : Int) (w3 : Option PV), (tk L (i + 1)).1 = 1 → ¬ own (tk L (i + 1)).2.2.2 → (tk L (i + 1)).2.2.1 - (tk L (i + 1)).2.1 ≤ 6 → ct = cN (nmG G) (tk L (i + 1)).2.2.2 G.length → StA h0 y T n G (prgG G) → MAt y T n L (i + 2) → gv y 80 G.length = (tk L (i + 1)).2.2.2 → Shape y → Wp (d + 9) 0 0 M_X12_statement 112 [some (.inr (.inr 66)), some (.inl g), some (.inl (tk L (i + 1)).2.1), some (.inl ct), w3] [] y q := by
    intro y ct w3 a1 a2 a3 ec Ry My m80 Sy
    have b5 := Ry.2.2.2.2
    have m6 := mx (tk L (i + 1)).2.2.2
    refine p_aload 113 rfl rfl rfl ?_
    refine p_getfi (j := 5) (z := gv y 66 5) 116 rfl rfl rfl (tg_66 Sy) rfl rfl ?_
    refine p_if_ne_f 119 rfl rfl (by omega) ?_
    refine p_iload 120 rfl rfl rfl ?_
    refine p_const 122 rfl rfl ?_
    refine p_ic_ne 125 131 rfl rfl rfl (fun c1 => ?_) (fun c1 => ?_)
    · skip
      -- leaf 1: loop 131 [some (.inr (.inr 66)), some (.inl g), some (.inl ((tk L (i + 1)).2.1)), some (.inl ct), w3] st=[] h=y 
      exact ms_131 O LX Sy Ry My g40 hg pl m80 D w ⟨a1, a2, a3, by omega⟩ K1 K2
    · skip
      refine p_aload 126 rfl rfl rfl ?_
      refine p_const 127 rfl rfl ?_
      refine p_iload 128 rfl rfl rfl ?_
      refine p_callv (le := [some (.inr (.inr 66)), some (.inl 2), some (.inl ((tk L (i + 1)).2.1))]) (as := [.inr (.inr 66), .inl 2, .inl ((tk L (i + 1)).2.1)]) (rest := []) 131 0 0 0 0 rfl rfl (Nat.le_of_ble_eq_true rfl) rfl (Nat.le_of_ble_eq_true rfl) rfl rfl (Nat.le_of_ble_eq_true rfl) rfl (Nat.le_of_ble_eq_true rfl) rfl (Nat.le_refl _) (Nat.le_refl _) rfl rfl (tg_66 Sy) ?_
      refine p_aload 1 rfl rfl rfl ?_
      refine p_getfi (j := 5) (z := gv y 66 5) 4 rfl rfl rfl (tg_66 Sy) rfl rfl ?_
      refine p_if_eq_t 8 rfl rfl (by omega) ?_
      refine p_aload 9 rfl rfl rfl ?_
      refine p_iload 10 rfl rfl rfl ?_
      refine p_putfi (j := 5) 13 rfl rfl rfl (fun z => absurd z (by decide)) (tg_66 Sy) rfl ?_
      refine p_nmh (fun y2 e2 => ?_)
      have S2 : Shape y2 := by rw [e2]; exact Sy.svF ff_66_5 _
      refine p_aload 14 rfl rfl rfl ?_
      refine p_iload 15 rfl rfl rfl ?_
      refine p_putfi (j := 6) 18 rfl rfl rfl (fun z => absurd z (by decide)) (tg_66 S2) rfl ?_
      refine p_nmh (fun y3 e3 => ?_)
      have S3 : Shape y3 := by rw [e3]; exact S2.svF ff_66_6 _
      refine p_ret rfl rfl ?_
      show Wp (d + 9) 0 0 M_X12_statement 131 [some (.inr (.inr 66)), some (.inl g), some (.inl ((tk L (i + 1)).2.1)), some (.inl ct), w3] [] y3 _
      -- leaf 2: loop 131 [some (.inr (.inr 66)), some (.inl g), some (.inl ((tk L (i + 1)).2.1)), some (.inl ct), w3] st=[] h=y3 e3,e2
      have er := D.name w (k := 2) (p := (tk L (i + 1)).2.1) (Or.inr (Or.inr ⟨a1, a2, a3, by omega, rfl, rfl⟩))
      exact ms_131b S3 (Ry.bd (by rw [e3, e2]; exact ((Keep.rf _ _).sv rfl _).sv rfl _) (by rw [e3, sv_nf (by decide), e2, sv_eq]) (by decide) (by rw [e3, sv_eq]) (by omega)) g40 hg (K2 _ _ er)
  refine p_aload 61 rfl rfl rfl ?_
  refine p_getfr (j := 21) (z := 80) 64 rfl rfl rfl (tg_66 S) rfl (fi_66_21 S) ?_
  refine p_iload 65 rfl rfl rfl ?_
  refine p_aload 66 rfl rfl rfl ?_
  refine p_callv (le := [some (.inr (.inr 66))]) (as := [.inr (.inr 66)]) (rest := [.inl g, .inr (.inr 80)]) 69 0 0 0 0 rfl rfl (Nat.le_of_ble_eq_true rfl) rfl (Nat.le_of_ble_eq_true rfl) rfl rfl (Nat.le_of_ble_eq_true rfl) rfl (Nat.le_of_ble_eq_true rfl) rfl (Nat.le_refl _) (Nat.le_refl _) rfl rfl (tg_66 S) ?_
  refine m_name S O LX (R.rdn M) (fun r1 y1 p1 S1 => ?_)
  show Wp (d + 9) 0 0 M_X12_statement 69 [some (.inr (.inr 66)), some (.inl g), some (.inl ((tk L (i + 1)).2.1)), none, none] [.inr (.inl r1), .inl g, .inr (.inr 80)] y1 _
  refine p_last (w := 8040) 70 rfl rfl (by decide) (tg_80 S1) (ln_80 S1) (by omega) (by omega) ?_
  refine p_nmh (fun y2 e2 => ?_)
  have S2 : Shape y2 := by rw [e2]; exact S1.svA fa_80 _ _
  refine p_const 71 rfl rfl ?_
  refine p_istore (ls' := [some (.inr (.inr 66)), some (.inl g), some (.inl ((tk L (i + 1)).2.1)), some (.inl 0), none]) 72 rfl rfl (Nat.le_of_ble_eq_true rfl) rfl ?_
  refine p_const 73 rfl rfl ?_
  refine p_istore (ls' := [some (.inr (.inr 66)), some (.inl g), some (.inl ((tk L (i + 1)).2.1)), some (.inl 0), some (.inl 0)]) 75 rfl rfl (Nat.le_of_ble_eq_true rfl) rfl ?_
  -- leaf 1: loop 75 [some (.inr (.inr 66)), some (.inl g), some (.inl ((tk L (i + 1)).2.1)), some (.inl 0), some (.inl 0)] st=[] h=y2 e2
  have e79 : gv y2 79 0 = G.length := by rw [e2, sv_ne (by decide)]; exact (p1.1.1 79 0 rfl).trans R.2.2.2.1.1
  refine ms_75 S2 e79 g40 hg (fun ct w3 ec => ?_)
  rcases p1.2 with ⟨a1, a2, a3, ev, M2, b5, e66⟩ | ⟨a1, a2, a3, ev, b5, b6⟩ | ⟨no, ev, b5, b6⟩
  · have R2 : StA h0 y2 T n G (prgG G) := by rw [e2]; exact (R.kp p1.1 b5 e66).row g40 hg (by decide) (by decide)
    have M2' : MAt y2 T n L (i + 2) := by rw [e2]; exact M2.row (by decide)
    have m80 : gv y2 80 g = (tk L (i + 1)).2.2.2 := by rw [e2, sv_eq]; exact ev
    refine good y2 ct _ a1 a2 a3 ?_ R2 M2' (by rw [← hg]; exact m80) S2
    rw [ec, m80]
    exact cN_congr (fun j hj => R2.2.2.2.1.nm hj)
  · exact bad y2 1 _ ct _ (by rw [e2]; exact (R.bd p1.1 b5 (by decide) b6 (by omega)).row g40 hg (by decide) (by decide)) (D.name w (Or.inr (Or.inl ⟨a1, a2, a3, rfl, rfl⟩))) S2
  · exact bad y2 1 _ ct _ (by rw [e2]; exact (R.bd p1.1 b5 (by decide) b6 (by omega)).row g40 hg (by decide) (by decide)) (D.name w (Or.inl ⟨no, rfl, rfl⟩)) S2
theorem m_statement {h : PH} (O : TxO T n) (LX : LexA T n L) (S : Shape h) (R : StA h0 h T n G (prgG G)) (M : MAt h T n L i) (i7 : i ≤ 699) (g40 : G.length < 40) (pl : (prgG G).length ≤ i) (mx : Mx6 G) (D : StR L G i r)
    (K1 : ∀ j s, r = .inl (j, s) → ∀ h', (StA h0 h' T n (G ++ [s]) (prgG (G ++ [s])) ∧ MAt h' T n L j) → Shape h' → q none h') (K2 : ∀ k p, r = .inr (k, p) → ∀ h', BdE h0 h' k p → Shape h' → q none h') :
    Wp (d + 9) 0 0 M_X12_statement 0 [some (.inr (.inr 66)), none, none, none, none] [] h q := by
  have l7 := (LX.tl O).1
  have B79 := R.2.2.2.1.1
  have J43 : ∀ (y : PH) (g : Int), g = G.length → isWd L i 20101733 → StA h0 y T n G (prgG G) → MAt y T n L (i + 1) → Shape y → Wp (d + 9) 0 0 M_X12_statement 43 [some (.inr (.inr 66)), some (.inl g), none, none, none] [] y q := by
    intro y g hg w Ry My Sy
    have b5 := Ry.2.2.2.2
    refine p_aload 44 rfl rfl rfl ?_
    refine p_getfi (j := 5) (z := gv y 66 5) 47 rfl rfl rfl (tg_66 Sy) rfl rfl ?_
    refine p_if_ne_f 50 rfl rfl (by omega) ?_
    refine p_aload 51 rfl rfl rfl ?_
    refine p_callv (le := [some (.inr (.inr 66))]) (as := [.inr (.inr 66)]) (rest := []) 54 0 0 0 0 rfl rfl (Nat.le_of_ble_eq_true rfl) rfl (Nat.le_of_ble_eq_true rfl) rfl rfl (Nat.le_of_ble_eq_true rfl) rfl (Nat.le_of_ble_eq_true rfl) rfl (Nat.le_refl _) (Nat.le_refl _) rfl rfl (tg_66 Sy) ?_
    refine m_lookT Sy O Ry.2.1.1 LX My (fun r1 y1 p1 S1 => ?_)
    show Wp (d + 9) 0 0 M_X12_statement 54 [some (.inr (.inr 66)), some (.inl g), none, none, none] [.inl r1] y1 _
    refine p_pop 55 rfl rfl nl_i ?_
    refine p_aload 56 rfl rfl rfl ?_
    refine p_getfi (j := 2) (z := gv y1 66 2) 59 rfl rfl rfl (tg_66 S1) rfl rfl ?_
    refine p_istore (ls' := [some (.inr (.inr 66)), some (.inl g), some (.inl (gv y1 66 2)), none, none]) 60 rfl rfl (Nat.le_of_ble_eq_true rfl) rfl ?_
    -- leaf 1: loop 60 [some (.inr (.inr 66)), some (.inl g), some (.inl (gv y1 66 2)), none, none] st=[] h=y1 
    rw [p1.2.2.2]
    exact ms_60 O LX S1 (Ry.kp (p1.1.wide lukA_nmA) ((p1.1.1 66 5 rfl).trans b5) (p1.1.1 66 6 rfl)) p1.2.2.1 g40 hg pl mx D w K1 K2
  have J43b : ∀ (y : PH) (g : Int), g = G.length → ∀ k p, r = .inr (k, p) → BdA h0 y G k p → Shape y → Wp (d + 9) 0 0 M_X12_statement 43 [some (.inr (.inr 66)), some (.inl g), none, none, none] [] y q := by
    intro y g hg k p er By Sy
    have b5 := By.2.1
    have b5' := By.2.2.1
    refine p_aload 44 rfl rfl rfl ?_
    refine p_getfi (j := 5) (z := gv y 66 5) 47 rfl rfl rfl (tg_66 Sy) rfl rfl ?_
    refine p_if_ne_t 55 rfl rfl (by omega) ?_
    refine p_aload 56 rfl rfl rfl ?_
    refine p_getfi (j := 2) (z := gv y 66 2) 59 rfl rfl rfl (tg_66 Sy) rfl rfl ?_
    refine p_istore (ls' := [some (.inr (.inr 66)), some (.inl g), some (.inl (gv y 66 2)), none, none]) 60 rfl rfl (Nat.le_of_ble_eq_true rfl) rfl ?_
    -- leaf 1: loop 60 [some (.inr (.inr 66)), some (.inl g), some (.inl (gv y 66 2)), none, none] st=[] h=y 
    exact ms_60b Sy By g40 hg (K2 k p er)
  have go : ∀ (y : PH) (g : Int), g = G.length → StA h0 y T n G (prgG G) → MAt y T n L i → Shape y → Wp (d + 8) 0 0 M_X12_asks 0 [some (.inr (.inr 66)), some (.inr (.inr 68))] [] y (fun r h' => Wp (d + 9) 0 0 M_X12_statement 43 [some (.inr (.inr 66)), some (.inl g), none, none, none] (r.toList ++ []) h' q) := by
    intro y g hg Ry My Sy
    refine m_asksW Sy 68 Ry.2.1.2.1 (by decide) O Ry.2.1.1 LX My Ry.2.2.2.2 (fun y2 p S2 => ?_) (fun y2 p S2 => ?_)
    · have w : isWd L i 20101733 := by have z := p.2.1; rw [w_sense] at z; exact z
      exact J43 y2 g hg w (Ry.kp (p.1.wide tkA_nmA) ((p.1.1 66 5 rfl).trans Ry.2.2.2.2) (p.1.1 66 6 rfl)) p.2.2 S2
    · have nw : ¬ isWd L i 20101733 := by have z := p.2.1; rw [w_sense] at z; exact z
      exact J43b y2 g hg 1 _ (D.sense nw) (Ry.bd p.1 p.2.2.1 (by decide) p.2.2.2 (by omega)) S2
  refine p_const 1 rfl rfl ?_
  refine p_aload 2 rfl rfl rfl ?_
  refine p_getfr (j := 20) (z := 79) 5 rfl rfl rfl (tg_66 S) rfl (fi_66_20 S) ?_
  refine p_const 6 rfl rfl ?_
  refine p_iald (w := 201) (z := (G.length : Int)) 7 rfl rfl (tg_79 S) (ln_79 S) (by decide) (by decide) B79 ?_
  refine p_iadd (z := 0 + (G.length : Int)) 8 rfl rfl (w32_id ⟨(by omega), (by omega)⟩) ?_
  refine p_istore (ls' := [some (.inr (.inr 66)), some (.inl (0 + (G.length : Int))), none, none, none]) 9 rfl rfl (Nat.le_of_ble_eq_true rfl) rfl ?_
  refine p_aload 10 rfl rfl rfl ?_
  refine p_callv (le := [some (.inr (.inr 66))]) (as := [.inr (.inr 66)]) (rest := []) 13 0 0 0 0 rfl rfl (Nat.le_of_ble_eq_true rfl) rfl (Nat.le_of_ble_eq_true rfl) rfl rfl (Nat.le_of_ble_eq_true rfl) rfl (Nat.le_of_ble_eq_true rfl) rfl (Nat.le_refl _) (Nat.le_refl _) rfl rfl (tg_66 S) ?_
  refine m_lookT S O R.2.1.1 LX M (fun r1 y1 p1 S1 => ?_)
  show Wp (d + 9) 0 0 M_X12_statement 13 [some (.inr (.inr 66)), some (.inl (0 + (G.length : Int))), none, none, none] [.inl r1] y1 _
  have g79 : gv y1 79 0 = G.length := (p1.1.1 79 0 rfl).trans B79
  have R3 : StA h0 y1 T n G (prgG G) := R.kp (p1.1.wide lukA_nmA) ((p1.1.1 66 5 rfl).trans R.2.2.2.2) (p1.1.1 66 6 rfl)
  refine p_pop 14 rfl rfl nl_i ?_
  refine p_aload 15 rfl rfl rfl ?_
  refine p_getfr (j := 20) (z := 79) 18 rfl rfl rfl (tg_66 S1) rfl (fi_66_20 S1) ?_
  refine p_const 19 rfl rfl ?_
  refine p_iald (w := 201) (z := gv y1 79 0) 20 rfl rfl (tg_79 S1) (ln_79 S1) (by decide) (by decide) rfl ?_
  refine p_const 22 rfl rfl ?_
  refine p_ic_ne_t 35 rfl rfl (by omega) ?_
  refine p_aload 36 rfl rfl rfl ?_
  refine p_aload 37 rfl rfl rfl ?_
  refine p_getfr (j := 9) (z := 68) 40 rfl rfl rfl (tg_66 S1) rfl (fi_66_9 S1) ?_
  refine p_callv (le := [some (.inr (.inr 66)), some (.inr (.inr 68))]) (as := [.inr (.inr 66), .inr (.inr 68)]) (rest := []) 43 0 0 0 0 rfl rfl (Nat.le_of_ble_eq_true rfl) rfl (Nat.le_of_ble_eq_true rfl) rfl rfl (Nat.le_of_ble_eq_true rfl) rfl (Nat.le_of_ble_eq_true rfl) rfl (Nat.le_refl _) (Nat.le_refl _) rfl rfl (tg_66 S1) ?_
  exact go _ _ (by omega) R3 p1.2.2.1 S1
theorem m_statement40 {h : PH} (O : TxO T n) (LX : LexA T n L) (S : Shape h) (R : StA h0 h T n G (prgG G)) (M : MAt h T n L i) (g40 : G.length = 40)
    (K2 : ∀ h', BdE h0 h' 4 (tk L i).2.1 → Shape h' → q none h') :
    Wp (d + 9) 0 0 M_X12_statement 0 [some (.inr (.inr 66)), none, none, none, none] [] h q := by
  have B79 := R.2.2.2.1.1
  refine p_const 1 rfl rfl ?_
  refine p_aload 2 rfl rfl rfl ?_
  refine p_getfr (j := 20) (z := 79) 5 rfl rfl rfl (tg_66 S) rfl (fi_66_20 S) ?_
  refine p_const 6 rfl rfl ?_
  refine p_iald (w := 201) (z := (G.length : Int)) 7 rfl rfl (tg_79 S) (ln_79 S) (by decide) (by decide) B79 ?_
  refine p_iadd (z := 0 + (G.length : Int)) 8 rfl rfl (w32_id ⟨(by omega), (by omega)⟩) ?_
  refine p_istore (ls' := [some (.inr (.inr 66)), some (.inl (0 + (G.length : Int))), none, none, none]) 9 rfl rfl (Nat.le_of_ble_eq_true rfl) rfl ?_
  refine p_aload 10 rfl rfl rfl ?_
  refine p_callv (le := [some (.inr (.inr 66))]) (as := [.inr (.inr 66)]) (rest := []) 13 0 0 0 0 rfl rfl (Nat.le_of_ble_eq_true rfl) rfl (Nat.le_of_ble_eq_true rfl) rfl rfl (Nat.le_of_ble_eq_true rfl) rfl (Nat.le_of_ble_eq_true rfl) rfl (Nat.le_refl _) (Nat.le_refl _) rfl rfl (tg_66 S) ?_
  refine m_lookT S O R.2.1.1 LX M (fun r1 y1 p1 S1 => ?_)
  show Wp (d + 9) 0 0 M_X12_statement 13 [some (.inr (.inr 66)), some (.inl (0 + (G.length : Int))), none, none, none] [.inl r1] y1 _
  have g79 : gv y1 79 0 = G.length := (p1.1.1 79 0 rfl).trans B79
  have b5 : gv y1 66 5 = 0 := (p1.1.1 66 5 rfl).trans R.2.2.2.2
  refine p_pop 14 rfl rfl nl_i ?_
  refine p_aload 15 rfl rfl rfl ?_
  refine p_getfr (j := 20) (z := 79) 18 rfl rfl rfl (tg_66 S1) rfl (fi_66_20 S1) ?_
  refine p_const 19 rfl rfl ?_
  refine p_iald (w := 201) (z := gv y1 79 0) 20 rfl rfl (tg_79 S1) (ln_79 S1) (by decide) (by decide) rfl ?_
  refine p_const 22 rfl rfl ?_
  refine p_ic_ne_f 25 rfl rfl (by omega) ?_
  refine p_aload 26 rfl rfl rfl ?_
  refine p_const 27 rfl rfl ?_
  refine p_aload 28 rfl rfl rfl ?_
  refine p_getfi (j := 2) (z := gv y1 66 2) 31 rfl rfl rfl (tg_66 S1) rfl rfl ?_
  refine p_callv (le := [some (.inr (.inr 66)), some (.inl 4), some (.inl (gv y1 66 2))]) (as := [.inr (.inr 66), .inl 4, .inl (gv y1 66 2)]) (rest := []) 34 0 0 0 0 rfl rfl (Nat.le_of_ble_eq_true rfl) rfl (Nat.le_of_ble_eq_true rfl) rfl rfl (Nat.le_of_ble_eq_true rfl) rfl (Nat.le_of_ble_eq_true rfl) rfl (Nat.le_refl _) (Nat.le_refl _) rfl rfl (tg_66 S1) ?_
  refine p_aload 1 rfl rfl rfl ?_
  refine p_getfi (j := 5) (z := gv y1 66 5) 4 rfl rfl rfl (tg_66 S1) rfl rfl ?_
  refine p_if_eq_t 8 rfl rfl (by omega) ?_
  refine p_aload 9 rfl rfl rfl ?_
  refine p_iload 10 rfl rfl rfl ?_
  refine p_putfi (j := 5) 13 rfl rfl rfl (fun z => absurd z (by decide)) (tg_66 S1) rfl ?_
  refine p_nmh (fun y2 e2 => ?_)
  have S2 : Shape y2 := by rw [e2]; exact S1.svF ff_66_5 _
  refine p_aload 14 rfl rfl rfl ?_
  refine p_iload 15 rfl rfl rfl ?_
  refine p_putfi (j := 6) 18 rfl rfl rfl (fun z => absurd z (by decide)) (tg_66 S2) rfl ?_
  refine p_nmh (fun y3 e3 => ?_)
  have S3 : Shape y3 := by rw [e3]; exact S2.svF ff_66_6 _
  refine p_ret rfl rfl ?_
  show Wp (d + 9) 0 0 M_X12_statement 34 [some (.inr (.inr 66)), some (.inl (0 + (G.length : Int))), none, none, none] [] y3 _
  refine p_ret rfl rfl ?_
  -- leaf 1: answer [] h=y3 e3,e2
  refine K2 _ ⟨by rw [e3, e2]; exact ((R.1.1.trans (p1.1.wide lukA_bmA)).sv rfl _).sv rfl _, by rw [e3, e2, sv_nf (by decide), sv_eq], by decide, by rw [e3, e2, sv_eq]; exact p1.2.2.2⟩ S3
end MSS

