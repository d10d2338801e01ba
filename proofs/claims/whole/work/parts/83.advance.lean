/-! THE READER's token -/
theorem nv4_in {T : Int → Int} {s e : Int} (h : ends isDig T s e) : 0 ≤ nv T s (if e - s ≤ 4 then e - s else 4).toNat ∧ nv T s (if e - s ≤ 4 then e - s else 4).toNat < 10000 := by
  have z : (if e - s ≤ 4 then e - s else 4) ≤ 4 ∧ (if e - s ≤ 4 then e - s else 4) ≤ e - s := by split <;> omega
  generalize (if e - s ≤ 4 then e - s else 4) = m at z
  have hm := h.1
  have w := nv_in (T := T) (p := s) (k := m.toNat) (fun i i0 i1 => h.2.1 i i0 (by omega))
  have h1 : (10 : Nat) ^ m.toNat ≤ 10 ^ 4 := Nat.pow_le_pow_right (by decide) (by omega)
  have e1 : ((10 ^ m.toNat : Nat) : Int) = 10 ^ m.toNat := Int.natCast_pow 10 _
  have e2 : (10 : Nat) ^ 4 = 10000 := by decide
  omega
theorem TokC.k {T : Int → Int} {s k e v : Int} (c : TokC T s k e v) : 1 ≤ k ∧ k ≤ 4 := by
  rcases c with ⟨_, _, h, _⟩ | ⟨_, _, h, _⟩ | ⟨_, _, h, _⟩ | ⟨_, _, _, _, h, _⟩ <;> omega
theorem TokR.b {T : Int → Int} {n kb pb : Int} {t : Tok} (O : TxO T n) (r : TokR T n kb pb t) : tokB t := by
  obtain ⟨_, ⟨s0, sn⟩, ⟨se, en⟩, k, c, hk⟩ := r
  have n7 := O.1
  have kb4 := c.k
  have kk := knd_in (kb := kb) (pb := pb) (s := t.2.1) (k := k) ⟨by omega, by omega⟩
  rw [← hk] at kk
  have o := O.in_ t.2.1
  refine ⟨kk, ⟨s0, by omega⟩, ⟨by omega, by omega⟩, ?_⟩
  rcases c with ⟨_, h, _, hv⟩ | ⟨_, h, _, hv⟩ | ⟨_, h, _, hv⟩ | ⟨_, _, _, _, _, hv⟩
  · rw [hv]; exact wq_in h
  · have := nv4_in h; rw [hv]; omega
  · rw [hv]; exact wq_in h
  · have := O.2.1 t.2.1 s0 sn; rw [hv]; omega
abbrev tk (L : List Tok) (i : Nat) : Tok := L.getD i (0, 0, 0, 0)
theorem tk_get {L : List Tok} {i : Nat} (h : i < L.length) : L[i]? = some (tk L i) := by
  rw [List.getElem?_eq_getElem h]
  show some L[i] = some (L.getD i (0, 0, 0, 0))
  rw [List.getD_eq_getElem?_getD, List.getElem?_eq_getElem h]; rfl
theorem LexA.b {T : Int → Int} {n : Int} {L : List Tok} (O : TxO T n) (X : LexA T n L) {i : Nat} (h : i < L.length) : tokB (tk L i) := by
  obtain ⟨D, e, P, _⟩ := X
  have z := tk_get h
  generalize tk L i = t at z
  rw [e] at z
  rcases snoc_getT z with ⟨j1, j2⟩ | ⟨j1, j2⟩
  · exact (P i t j2).b O
  · rw [j2]
    have n7 := O.1
    exact ⟨⟨by show (0 : Int) ≤ 0; decide, by show (0 : Int) ≤ 5; decide⟩, ⟨n7.1, n7.2⟩, ⟨n7.1, n7.2⟩, by show (0 : Int) ≤ 0; decide, by show (0 : Int) < 1073741824; decide⟩
def CurX (h : PH) (L : List Tok) (i : Nat) : Prop := i < L.length ∧ gv h 11 1 = i + 1 ∧ gv h 11 2 = (tk L i).1 ∧ gv h 11 3 = (tk L i).2.1 ∧ gv h 11 4 = (tk L i).2.2.1 ∧ gv h 11 5 = (tk L i).2.2.2 ∧ gv h 11 6 = 0 ∧ gv h 11 7 = -1
def avA (a i : Int) : Bool := decide (a = 11 ∧ 1 ≤ i ∧ i ≤ 5)
theorem x_advance {d : Nat} {h : PH} {q : PQ} (S : Shape h) {L : List Tok} {i : Nat} (X : TkH h L) (b : tokB (tk L i)) (l7 : L.length ≤ 701) (hi : i < L.length) (g1 : gv h 11 1 = i) (g6 : gv h 11 6 = 0) (g7 : gv h 11 7 = -1)
    (K : ∀ h', (Keep avA h h' ∧ CurX h' L i) → Shape h' → q none h') :
    Wp (d + 1) 0 0 M_X2_advance 0 [some (.inr (.inr 11)), none, none] [] h q := by
  have e17 := X.2 i _ (tk_get hi)
  have x1 := X.1
  unfold CurX at K
  generalize tk L i = t at b e17 K
  obtain ⟨b1, b2, b3, b4⟩ := b
  unfold pk at e17
  refine p_aload 1 rfl rfl rfl ?_
  refine p_getfi (j := 1) (z := (i : Int)) 4 rfl rfl rfl (tg_11 S) rfl g1 ?_
  refine p_aload 5 rfl rfl rfl ?_
  refine p_getfr (j := 0) (z := 16) 8 rfl rfl rfl (tg_11 S) rfl (fi_11_0 S) ?_
  refine p_getfi (j := 2) (z := (L.length : Int)) 11 rfl rfl rfl (tg_16 S) rfl x1 ?_
  refine p_ic_ge 14 97 rfl rfl rfl (fun c1 => ?_) (fun c1 => ?_)
  · skip
    refine p_ret rfl rfl ?_
    -- leaf 1: answer [] h=h 
    exfalso; omega
  · skip
    refine p_aload 15 rfl rfl rfl ?_
    refine p_getfi (j := 1) (z := (i : Int)) 18 rfl rfl rfl (tg_11 S) rfl g1 ?_
    refine p_aload 19 rfl rfl rfl ?_
    refine p_getfr (j := 0) (z := 16) 22 rfl rfl rfl (tg_11 S) rfl (fi_11_0 S) ?_
    refine p_getfr (j := 1) (z := 17) 25 rfl rfl rfl (tg_16 S) rfl (fi_16_1 S) ?_
    refine p_alen (w := 701) 26 rfl rfl (by rw [(tg_17 S)]; decide) (ln_17 S) ?_
    refine p_ic_ge 29 97 rfl rfl rfl (fun c2 => ?_) (fun c2 => ?_)
    · skip
      refine p_ret rfl rfl ?_
      -- leaf 2: answer [] h=h 
      exfalso; omega
    · skip
      refine p_aload 30 rfl rfl rfl ?_
      refine p_getfr (j := 0) (z := 16) 33 rfl rfl rfl (tg_11 S) rfl (fi_11_0 S) ?_
      refine p_getfr (j := 1) (z := 17) 36 rfl rfl rfl (tg_16 S) rfl (fi_16_1 S) ?_
      refine p_aload 37 rfl rfl rfl ?_
      refine p_getfi (j := 1) (z := (i : Int)) 40 rfl rfl rfl (tg_11 S) rfl g1 ?_
      refine p_lald (w := 701) (z := gv h 17 (i : Int)) 41 rfl rfl (tg_17 S) (ln_17 S) (by omega) (by omega) rfl ?_
      refine p_lstore (ls' := [some (.inr (.inr 11)), some (.inr (.inl (gv h 17 (i : Int)))), none]) 42 rfl rfl (Nat.le_of_ble_eq_true rfl) rfl ?_
      refine p_aload 43 rfl rfl rfl ?_
      refine p_lload 44 rfl rfl rfl ?_
      refine p_const 46 rfl rfl ?_
      refine p_lshr (z := (gv h 17 (i : Int)) / 1125899906842624) 47 rfl rfl (by decide) (by decide) rfl ?_
      refine p_l2i (z := (gv h 17 (i : Int)) / 1125899906842624) 48 rfl rfl (w32_id ⟨(by omega), (by omega)⟩) ?_
      refine p_putfi (j := 2) 51 rfl rfl rfl (fun z => absurd z (by decide)) (tg_11 S) rfl ?_
      refine p_nmh (fun y3 e3 => ?_)
      have S3 : Shape y3 := by rw [e3]; exact S.svF ff_11_2 _
      refine p_aload 52 rfl rfl rfl ?_
      refine p_lload 53 rfl rfl rfl ?_
      refine p_const 55 rfl rfl ?_
      refine p_lshr (z := (gv h 17 (i : Int)) / 1099511627776) 56 rfl rfl (by decide) (by decide) rfl ?_
      refine p_lconst 59 rfl rfl ?_
      refine p_land (z := ((gv h 17 (i : Int)) / 1099511627776) % 1024) 60 rfl rfl (mask64 10 rfl (by decide)) ?_
      refine p_l2i (z := ((gv h 17 (i : Int)) / 1099511627776) % 1024) 61 rfl rfl (w32_id ⟨(by omega), (by omega)⟩) ?_
      refine p_putfi (j := 3) 64 rfl rfl rfl (fun z => absurd z (by decide)) (tg_11 S3) rfl ?_
      refine p_nmh (fun y4 e4 => ?_)
      have S4 : Shape y4 := by rw [e4]; exact S3.svF ff_11_3 _
      refine p_aload 65 rfl rfl rfl ?_
      refine p_lload 66 rfl rfl rfl ?_
      refine p_const 68 rfl rfl ?_
      refine p_lshr (z := (gv h 17 (i : Int)) / 1073741824) 69 rfl rfl (by decide) (by decide) rfl ?_
      refine p_lconst 72 rfl rfl ?_
      refine p_land (z := ((gv h 17 (i : Int)) / 1073741824) % 1024) 73 rfl rfl (mask64 10 rfl (by decide)) ?_
      refine p_l2i (z := ((gv h 17 (i : Int)) / 1073741824) % 1024) 74 rfl rfl (w32_id ⟨(by omega), (by omega)⟩) ?_
      refine p_putfi (j := 4) 77 rfl rfl rfl (fun z => absurd z (by decide)) (tg_11 S4) rfl ?_
      refine p_nmh (fun y5 e5 => ?_)
      have S5 : Shape y5 := by rw [e5]; exact S4.svF ff_11_4 _
      refine p_aload 78 rfl rfl rfl ?_
      refine p_lload 79 rfl rfl rfl ?_
      refine p_lconst 82 rfl rfl ?_
      refine p_land (z := (gv h 17 (i : Int)) % 1073741824) 83 rfl rfl (mask64 30 rfl (by decide)) ?_
      refine p_l2i (z := (gv h 17 (i : Int)) % 1073741824) 84 rfl rfl (w32_id ⟨(by omega), (by omega)⟩) ?_
      refine p_putfi (j := 5) 87 rfl rfl rfl (fun z => absurd z (by decide)) (tg_11 S5) rfl ?_
      refine p_nmh (fun y6 e6 => ?_)
      have S6 : Shape y6 := by rw [e6]; exact S5.svF ff_11_5 _
      refine p_aload 88 rfl rfl rfl ?_
      refine p_dup 89 rfl rfl nl_r ?_
      refine p_getfi (j := 1) (z := (i : Int)) 92 rfl rfl rfl (tg_11 S6) rfl (by rw [e6, sv_nf (by decide)]; rw [e5, sv_nf (by decide)]; rw [e4, sv_nf (by decide)]; rw [e3, sv_nf (by decide)]; exact g1) ?_
      refine p_const 93 rfl rfl ?_
      refine p_iadd (z := (i : Int) + 1) 94 rfl rfl (w32_id ⟨(by omega), (by omega)⟩) ?_
      refine p_putfi (j := 1) 97 rfl rfl rfl (fun z => absurd z (by decide)) (tg_11 S6) rfl ?_
      refine p_nmh (fun y7 e7 => ?_)
      have S7 : Shape y7 := by rw [e7]; exact S6.svF ff_11_1 _
      refine p_ret rfl rfl ?_
      -- leaf 3: answer [] h=y7 e7,e6,e5,e4,e3
      refine K _ ⟨by rw [e7, e6, e5, e4, e3]; exact (((((Keep.rf _ _).sv rfl _).sv rfl _).sv rfl _).sv rfl _).sv rfl _, hi, by rw [e7, sv_eq], ?_, ?_, ?_, ?_, ?_, ?_⟩ S7
      · rw [e7, sv_nf (by decide), e6, sv_nf (by decide), e5, sv_nf (by decide), e4, sv_nf (by decide), e3, sv_eq]; omega
      · rw [e7, sv_nf (by decide), e6, sv_nf (by decide), e5, sv_nf (by decide), e4, sv_eq]; omega
      · rw [e7, sv_nf (by decide), e6, sv_nf (by decide), e5, sv_eq]; omega
      · rw [e7, sv_nf (by decide), e6, sv_eq]; omega
      · rw [e7, sv_nf (by decide), e6, sv_nf (by decide), e5, sv_nf (by decide), e4, sv_nf (by decide), e3, sv_nf (by decide)]; exact g6
      · rw [e7, sv_nf (by decide), e6, sv_nf (by decide), e5, sv_nf (by decide), e4, sv_nf (by decide), e3, sv_nf (by decide)]; exact g7

