/-! SPELL: all rows of names of a row of letters, class's side -/
def noA (a i : Int) : Bool := decide ((a = 24 ∧ i = 9) ∨ a = 28)
theorem noA_bkB : ∀ a i, bkB a i = false → noA a i = false := fun a i => dw (by omega)
/-- the rows found are L, of at most lim -/
def RowsX (h : PH) (L : List (List Int)) (lim : Nat) : Prop := gv h 24 9 = L.length ∧ gv h 24 10 = lim ∧ L.Nodup ∧ L.length ≤ lim ∧ lim ≤ 100 ∧ (∀ l ∈ L, okl l) ∧ ∀ (i : Nat) l, L[i]? = some l → gv h 28 i = enc l
theorem or32_add64 {x y : Int} (x0 : 0 ≤ x) (x1 : x < 16777216) (y0 : 0 ≤ y) (y1 : y < 64) : or32 (x * 64) y = x * 64 + y := by
  rw [or32_nat ⟨by omega, by omega⟩ ⟨y0, by omega⟩]
  have h := Nat.two_pow_add_eq_or_of_lt (i := 6) (b := y.toNat) (by show y.toNat < 64; omega) x.toNat
  rw [show (x * 64).toNat = 2 ^ 6 * x.toNat by show (x * 64).toNat = 64 * x.toNat; omega, ← h]
  show ((64 * x.toNat + y.toNat : Nat) : Int) = _
  omega
theorem x_note {d : Nat} {h : PH} {q : PQ} (S : Shape h) (x : Int) {l : List Int} {L : List (List Int)} {lim : Nat} (hx : x = enc l) (ok : okl l) (R : RowsX h L lim) (lt : L.length < lim)
    (K : ∀ h', (Keep noA h h' ∧ ∃ L', RowsX h' L' lim ∧ Ext L L' lim (fun y => y = l)) → Shape h' → q none h') : Wp (d + 1) 0 0 M_X5_note 0 [some (.inr (.inr 24)), some (.inl x), none] [] h q := by
  obtain ⟨r1, r2, r3, r4, r5, r6, r7⟩ := R
  have J : ∀ (c : Nat) (i : Nat), i + c = L.length → (∀ (j : Nat) y, j < i → L[j]? = some y → y ≠ l) → Wp (d + 1) 0 0 M_X5_note 2 [some (.inr (.inr 24)), some (.inl x), some (.inl i)] [] h q := by
    intro c
    induction c with
    | zero =>
      intro i hi n
      have nl : l ∉ L := fun z => by
        obtain ⟨j, hj⟩ := List.getElem?_of_mem z
        have := (List.getElem?_eq_some_iff.mp hj).1
        exact n j l (by omega) hj rfl
      refine p_iload 3 rfl rfl rfl ?_
      refine p_aload 4 rfl rfl rfl ?_
      refine p_getfi (j := 9) (z := gv h 24 9) 7 rfl rfl rfl (tg_24 S) rfl rfl ?_
      refine p_ic_ge_t 27 rfl rfl (by omega) ?_
      refine p_aload 28 rfl rfl rfl ?_
      refine p_getfi (j := 9) (z := gv h 24 9) 31 rfl rfl rfl (tg_24 S) rfl rfl ?_
      refine p_aload 32 rfl rfl rfl ?_
      refine p_getfi (j := 10) (z := gv h 24 10) 35 rfl rfl rfl (tg_24 S) rfl rfl ?_
      refine p_ic_ge_f 38 rfl rfl (by omega) ?_
      refine p_aload 39 rfl rfl rfl ?_
      refine p_getfi (j := 9) (z := gv h 24 9) 42 rfl rfl rfl (tg_24 S) rfl rfl ?_
      refine p_aload 43 rfl rfl rfl ?_
      refine p_getfr (j := 8) (z := 28) 46 rfl rfl rfl (tg_24 S) rfl (fi_24_8 S) ?_
      refine p_alen (w := 100) 47 rfl rfl (by rw [(tg_28 S)]; decide) (ln_28 S) ?_
      refine p_ic_ge_f 50 rfl rfl (by omega) ?_
      refine p_aload 51 rfl rfl rfl ?_
      refine p_getfr (j := 8) (z := 28) 54 rfl rfl rfl (tg_24 S) rfl (fi_24_8 S) ?_
      refine p_aload 55 rfl rfl rfl ?_
      refine p_getfi (j := 9) (z := gv h 24 9) 58 rfl rfl rfl (tg_24 S) rfl rfl ?_
      refine p_iload 59 rfl rfl rfl ?_
      refine p_iast (w := 100) 60 rfl rfl (by decide) (tg_28 S) (ln_28 S) (by omega) (by omega) ?_
      refine p_nmh (fun y1 e1 => ?_)
      have S1 : Shape y1 := by rw [e1]; exact S.svA fa_28 _ _
      have kp1 : Keep noA h y1 := by rw [e1]; exact (Keep.rf noA _).sv rfl _
      refine p_aload 61 rfl rfl rfl ?_
      refine p_dup 62 rfl rfl nl_r ?_
      refine p_getfi (j := 9) (z := gv h 24 9) 65 rfl rfl rfl (tg_24 S1) rfl (by rw [e1, sv_ne (by decide)]) ?_
      refine p_const 66 rfl rfl ?_
      refine p_iadd (z := (gv h 24 9) + 1) 67 rfl rfl (w32_id ⟨(by omega), (by omega)⟩) ?_
      refine p_putfi (j := 9) 70 rfl rfl rfl (fun z => absurd z (by decide)) (tg_24 S1) rfl ?_
      refine p_nmh (fun y2 e2 => ?_)
      have S2 : Shape y2 := by rw [e2]; exact S1.svF ff_24_9 _
      have kp2 : Keep noA h y2 := by rw [e2]; exact kp1.sv rfl _
      refine p_ret rfl rfl ?_
      -- leaf 1: answer [] h=y2 e2,e1 kp2
      have e9 : gv y2 24 9 = ((L ++ [l]).length : Int) := by rw [e2, e1, sv_eq, r1, List.length_append]; rfl
      refine K _ ⟨kp2, L ++ [l], ⟨e9, ?_, (Ext.one r3 lt nl).1, (Ext.one r3 lt nl).2.1, r5, ?_, ?_⟩, Ext.one r3 lt nl⟩ S2
      · rw [e2, e1, sv_nf (by decide), sv_ne (by decide)]; exact r2
      · intro y hy
        rcases List.mem_append.mp hy with z | z
        · exact r6 y z
        · rw [List.mem_singleton.mp z]; exact ok
      · intro j y hy
        rw [e2, e1, sv_ne (by decide), r1]
        by_cases z : j = L.length
        · rw [z, List.getElem?_append_right (Nat.le_refl _), Nat.sub_self] at hy
          rw [z, sv_eq, hx, Option.some.inj hy]
        · have jl := (List.getElem?_eq_some_iff.mp hy).1
          rw [List.length_append] at jl
          have jl : j < L.length + 1 := jl
          rw [List.getElem?_append_left (by omega)] at hy
          rw [sv_nf (by omega)]; exact r7 j y hy
    | succ c ih =>
      intro i hi n
      have il : i < L.length := by omega
      have hy := List.getElem?_eq_getElem il
      have g := r7 i _ hy
      refine p_iload 3 rfl rfl rfl ?_
      refine p_aload 4 rfl rfl rfl ?_
      refine p_getfi (j := 9) (z := gv h 24 9) 7 rfl rfl rfl (tg_24 S) rfl rfl ?_
      refine p_ic_ge_f 10 rfl rfl (by omega) ?_
      refine p_aload 11 rfl rfl rfl ?_
      refine p_getfr (j := 8) (z := 28) 14 rfl rfl rfl (tg_24 S) rfl (fi_24_8 S) ?_
      refine p_iload 15 rfl rfl rfl ?_
      refine p_iald (w := 100) (z := gv h 28 i) 16 rfl rfl (tg_28 S) (ln_28 S) (by omega) (by omega) rfl ?_
      refine p_iload 17 rfl rfl rfl ?_
      refine p_ic_ne 20 21 rfl rfl rfl (fun c1 => ?_) (fun c1 => ?_)
      · skip
        refine p_iinc (y := i + 1) (ls' := [some (.inr (.inr 24)), some (.inl x), some (.inl (i + 1))]) 24 rfl rfl rfl (w32_id ⟨(by omega), (by omega)⟩) rfl ?_
        refine p_goto 2 rfl rfl ?_
        -- leaf 1: loop 2 [some (.inr (.inr 24)), some (.inl x), some (.inl (i + 1))] st=[] h=h 
        refine ih (i + 1) (by omega) (fun j y hj hjy => ?_)
        by_cases z : j = i
        · rw [z, hy] at hjy
          intro e
          rw [← Option.some.inj hjy] at e
          apply c1
          rw [g, e, hx]
        · exact n j y (by omega) hjy
      · skip
        refine p_ret rfl rfl ?_
        -- leaf 2: answer [] h=h 
        have c1 : gv h 28 i = x := c1
        rw [g, hx] at c1
        have e := enc_inj (r6 _ (List.getElem_mem il)) ok c1
        exact K h ⟨Keep.rf _ _, L, ⟨r1, r2, r3, r4, r5, r6, r7⟩, Ext.in r3 r4 (by rw [← e]; exact List.getElem_mem il)⟩ S
  refine p_const 1 rfl rfl ?_
  refine p_istore (ls' := [some (.inr (.inr 24)), some (.inl x), some (.inl 0)]) 2 rfl rfl (Nat.le_of_ble_eq_true rfl) rfl ?_
  -- leaf 1: loop 2 [some (.inr (.inr 24)), some (.inl x), some (.inl 0)] st=[] h=h 
  exact J L.length 0 (by omega) (fun j y hj => by omega)
/-- what spell tells of fr on, behind the names p (the last first) -/
def Sb (W : Int → Int → Prop) (v fr : Int) (p l : List Int) : Prop := ∃ r, l = p.reverse ++ r ∧ Sp W v (rl v) fr r
theorem x_spell0 {h : PH} {v : Int} {W : Int → Int → Prop} (hn : gv h 24 4 = rl v) (d : Nat) (q : PQ) (fr x : Int) (p : List Int) (L : List (List Int)) (lim : Nat) (h1 : PH) (hf : rl v ≤ fr) (f1 : fr ≤ rl v) (pl : p.length ≤ fr) (pk : ∀ y ∈ p, 0 ≤ y ∧ y < 40) (hx : x = en p)
    (S1 : Shape h1) (kp : Keep noA h h1) (R : RowsX h1 L lim) (lt : L.length < lim) (K : ∀ h', (Keep noA h h' ∧ ∃ L', RowsX h' L' lim ∧ Ext L L' lim (Sb W v fr p)) → Shape h' → q none h') : Wp (d + 2) 0 0 M_X5_spell 0 [some (.inr (.inr 24)), some (.inl fr), some (.inl x), none, none, none, none] [] h1 q := by
  have b := rl_in v
  have hn1 : gv h1 24 4 = rl v := (kp.1 24 4 rfl).trans hn
  have ok : okl p.reverse := ⟨by rw [List.length_reverse]; omega, fun y hy => pk y (List.mem_reverse.mp hy)⟩
  have hx' : x = enc p.reverse := by unfold enc; rw [List.reverse_reverse]; exact hx
  refine p_iload 1 rfl rfl rfl ?_
  refine p_aload 2 rfl rfl rfl ?_
  refine p_getfi (j := 4) (z := (rl v)) 5 rfl rfl rfl (tg_24 S1) rfl hn1 ?_
  refine p_ic_lt_f 8 rfl rfl (by omega) ?_
  refine p_aload 9 rfl rfl rfl ?_
  refine p_iload 10 rfl rfl rfl ?_
  refine p_callv (le := [some (.inr (.inr 24)), some (.inl x), none]) (as := [.inr (.inr 24), .inl x]) (rest := []) 13 0 0 0 0 rfl rfl (Nat.le_of_ble_eq_true rfl) rfl (Nat.le_of_ble_eq_true rfl) rfl rfl (Nat.le_of_ble_eq_true rfl) rfl (Nat.le_of_ble_eq_true rfl) rfl (Nat.le_refl _) (Nat.le_refl _) rfl rfl (tg_24 S1) ?_
  refine x_note S1 x (hx') (ok) (R) (lt) (fun y1 p1 S1 => ?_)
  show Wp (d + 2) 0 0 M_X5_spell 13 [some (.inr (.inr 24)), some (.inl fr), some (.inl x), none, none, none, none] [] y1 _
  refine p_ret rfl rfl ?_
  -- leaf 1: answer [] h=y1 
  obtain ⟨q1, L', q2, q3⟩ := p1
  refine K _ ⟨kp.trans q1, L', q2, q3.imp (fun l => ⟨fun e => ⟨[], by rw [e, List.append_nil], by show rl v ≤ fr; omega⟩, ?_⟩)⟩ S1
  rintro ⟨r, e, z⟩
  match r, z with
  | [], _ => rw [e, List.append_nil]
  | id :: r, ⟨len, g1, g2, _⟩ => omega
theorem x_spell {h : PH} {v : Int} {W : Int → Int → Prop} (hW : ∀ c id, W c id → 0 ≤ id ∧ id < 40) (hn : gv h 24 4 = rl v) (N : NE h v W) (F : ∀ fr, 0 ≤ fr → fr ≤ rl v → Rf h W v fr) :
    ∀ (c d : Nat) (q : PQ) (fr x : Int) (p : List Int) (L : List (List Int)) (lim : Nat) (h1 : PH), rl v ≤ fr + c → 0 ≤ fr → fr ≤ rl v → p.length ≤ fr → (∀ y ∈ p, 0 ≤ y ∧ y < 40) → x = en p → Shape h1 → Keep noA h h1 → RowsX h1 L lim → L.length < lim →
      (∀ h', (Keep noA h h' ∧ ∃ L', RowsX h' L' lim ∧ Ext L L' lim (Sb W v fr p)) → Shape h' → q none h') → Wp (d + c + 2) 0 0 M_X5_spell 0 [some (.inr (.inr 24)), some (.inl fr), some (.inl x), none, none, none, none] [] h1 q := by
  have b := rl_in v
  intro c
  induction c with
  | zero =>
    intro d q fr x p L lim h1 hf f0 f1 pl pk hx S1 kp R lt K
    exact x_spell0 hn d q fr x p L lim h1 (by omega) f1 pl pk hx S1 kp R lt K
  | succ c ih =>
    intro d q fr x p L lim h1 hf f0 f1 pl pk hx S1 kp R lt K
    by_cases zz : rl v ≤ fr
    · exact x_spell0 hn (d + (c + 1)) q fr x p L lim h1 zz f1 pl pk hx S1 kp R lt K
    have hn1 : gv h1 24 4 = rl v := (kp.1 24 4 rfl).trans hn
    have hx2 : 0 ≤ x ∧ x < 262144 := by
      have hx2 := en_in pk
      have px3 : (64 : Int) ^ p.length ≤ 262144 := by
        rcases (show p.length = 0 ∨ p.length = 1 ∨ p.length = 2 ∨ p.length = 3 by omega) with e | e | e | e <;> rw [e] <;> decide
      rw [← hx] at hx2
      exact ⟨hx2.1, Int.lt_of_lt_of_le hx2.2 px3⟩
    have ihs := ih d
    show Wp (d + c + 3) 0 0 M_X5_spell 0 _ _ _ _
    generalize hD : d + c = D
    rw [hD] at ihs
    have outer : ∀ (c2 : Nat) (m : Int) (w1 w2 w3 : Option PV) (L1 : List (List Int)) (h2 : PH), fr + m + c2 = rl v + 1 → 1 ≤ m → Shape h2 → Keep noA h h2 → RowsX h2 L1 lim → Ext L L1 lim (fun l => ∃ id r len, l = p.reverse ++ id :: r ∧ 1 ≤ len ∧ len < m ∧ fr + len ≤ rl v ∧ W (sub v (rl v) fr len) id ∧ Sp W v (rl v) (fr + len) r) →
        Wp (D + 3) 0 0 M_X5_spell 16 [some (.inr (.inr 24)), some (.inl fr), some (.inl x), some (.inl m), w1, w2, w3] [] h2 q := by
      intro c2
      induction c2 with
      | zero =>
        intro m w1 w2 w3 L1 h2 hm m1 S2 k2 R2 X
        have hn2 : gv h2 24 4 = rl v := (k2.1 24 4 rfl).trans hn
        refine p_iload 17 rfl rfl rfl ?_
        refine p_iload 18 rfl rfl rfl ?_
        refine p_iadd (z := fr + m) 19 rfl rfl (w32_id ⟨(by omega), (by omega)⟩) ?_
        refine p_aload 20 rfl rfl rfl ?_
        refine p_getfi (j := 4) (z := (rl v)) 23 rfl rfl rfl (tg_24 S2) rfl hn2 ?_
        refine p_ic_gt_t 114 rfl rfl (by omega) ?_
        refine p_ret rfl rfl ?_
        -- leaf 1: answer [] h=h2 
        refine K h2 ⟨k2, L1, R2, X.imp (fun l => ⟨?_, ?_⟩)⟩ S2
        · rintro ⟨id, r, len, e, g1, g2, g3, g4, g5⟩; exact ⟨id :: r, e, len, g1, g3, g4, g5⟩
        · rintro ⟨r, e, z⟩
          match r, z with
          | [], z => have z : rl v ≤ fr := z; omega
          | id :: r, ⟨len, g1, g2, g3, g4⟩ => exact ⟨id, r, len, e, g1, by omega, g2, g3, g4⟩
      | succ c2 ih2 =>
        intro m w1 w2 w3 L1 h2 hm m1 S2 k2 R2 X
        have hn2 : gv h2 24 4 = rl v := (k2.1 24 4 rfl).trans hn
        have nm := N fr m f0 m1 (by omega)
        have rf := F (fr + m) (by omega) (by omega)
        have inner : ∀ (c3 : Nat) (u id : Int) (L2 : List (List Int)) (h3 : PH), id + c3 = 40 → 0 ≤ id → Shape h3 → Keep noA h h3 → RowsX h3 L2 lim → (∀ y, 0 ≤ y → y < 40 → (bit u y = 1 ↔ W (sub v (rl v) fr m) y ∧ Re W v (fr + m))) →
            Ext L L2 lim (fun l => (∃ id r len, l = p.reverse ++ id :: r ∧ 1 ≤ len ∧ len < m ∧ fr + len ≤ rl v ∧ W (sub v (rl v) fr len) id ∧ Sp W v (rl v) (fr + len) r) ∨ (∃ y r, l = p.reverse ++ y :: r ∧ 0 ≤ y ∧ y < id ∧ W (sub v (rl v) fr m) y ∧ Sp W v (rl v) (fr + m) r)) →
            Wp (D + 3) 0 0 M_X5_spell 56 [some (.inr (.inr 24)), some (.inl fr), some (.inl x), some (.inl m), some (.inr (.inl u)), none, some (.inl id)] [] h3 q := by
          intro c3
          induction c3 with
          | zero =>
            intro u id L2 h3 hi i0 S3 k3 R3 hu X2
            refine p_iload 58 rfl rfl rfl ?_
            refine p_const 60 rfl rfl ?_
            refine p_ic_ge_t 108 rfl rfl (by omega) ?_
            refine p_iinc (y := m + 1) (ls' := [some (.inr (.inr 24)), some (.inl fr), some (.inl x), some (.inl (m + 1)), some (.inr (.inl u)), none, some (.inl id)]) 111 rfl rfl rfl (w32_id ⟨(by omega), (by omega)⟩) rfl ?_
            refine p_goto 16 rfl rfl ?_
            -- leaf 1: loop 16 [some (.inr (.inr 24)), some (.inl fr), some (.inl x), some (.inl (m + 1)), some (.inr (.inl u)), none, some (.inl id)] st=[] h=h3 
            refine ih2 (m + 1) _ _ _ L2 h3 (by omega) (by omega) S3 k3 R3 (X2.imp (fun l => ⟨?_, ?_⟩))
            · rintro (⟨id, r, len, e, g1, g2, g3⟩ | ⟨y, r, e, g1, g2, g3⟩)
              · exact ⟨id, r, len, e, g1, by omega, g3⟩
              · exact ⟨y, r, m, e, m1, by omega, by omega, g3⟩
            · rintro ⟨id, r, len, e, g1, g2, g3, g4, g5⟩
              by_cases z : len = m
              · rw [z] at g4 g5; exact Or.inr ⟨id, r, e, (hW _ _ g4).1, by have := (hW _ _ g4).2; omega, g4, g5⟩
              · exact Or.inl ⟨id, r, len, e, g1, by omega, g3, g4, g5⟩
          | succ c3 ih3 =>
            intro u id L2 h3 hi i0 S3 k3 R3 hu X2
            have hb := hu id i0 (by omega)
            have R3' := R3
            obtain ⟨r1, r2, r3, r4, r5, r6, r7⟩ := R3
            have step : ∀ (L3 : List (List Int)) (h4 : PH), Shape h4 → Keep noA h h4 → RowsX h4 L3 lim → Ext L2 L3 lim (fun l => ∃ r, l = p.reverse ++ id :: r ∧ W (sub v (rl v) fr m) id ∧ Sp W v (rl v) (fr + m) r) →
                Wp (D + 3) 0 0 M_X5_spell 56 [some (.inr (.inr 24)), some (.inl fr), some (.inl x), some (.inl m), some (.inr (.inl u)), none, some (.inl (id + 1))] [] h4 q := by
              intro L3 h4 S4 k4 R4 X4
              refine ih3 u (id + 1) L3 h4 (by omega) (by omega) S4 k4 R4 hu ((X2.trans X4).imp (fun l => ⟨?_, ?_⟩))
              · rintro ((g | ⟨y, r, e, g1, g2, g3⟩) | ⟨r, e, g⟩)
                · exact Or.inl g
                · exact Or.inr ⟨y, r, e, g1, by omega, g3⟩
                · exact Or.inr ⟨id, r, e, i0, by omega, g⟩
              · rintro (g | ⟨y, r, e, g1, g2, g3⟩)
                · exact Or.inl (Or.inl g)
                · by_cases z : y = id
                  · rw [z] at e g3; exact Or.inr ⟨r, e, g3⟩
                  · exact Or.inl (Or.inr ⟨y, r, e, g1, by omega, g3⟩)
            refine p_iload 58 rfl rfl rfl ?_
            refine p_const 60 rfl rfl ?_
            refine p_ic_ge_f 63 rfl rfl (by omega) ?_
            refine p_aload 64 rfl rfl rfl ?_
            refine p_getfi (j := 9) (z := gv h3 24 9) 67 rfl rfl rfl (tg_24 S3) rfl rfl ?_
            refine p_aload 68 rfl rfl rfl ?_
            refine p_getfi (j := 10) (z := gv h3 24 10) 71 rfl rfl rfl (tg_24 S3) rfl rfl ?_
            refine p_ic_ge 74 108 rfl rfl rfl (fun c1 => ?_) (fun c1 => ?_)
            · skip
              refine p_iinc (y := m + 1) (ls' := [some (.inr (.inr 24)), some (.inl fr), some (.inl x), some (.inl (m + 1)), some (.inr (.inl u)), none, some (.inl id)]) 111 rfl rfl rfl (w32_id ⟨(by omega), (by omega)⟩) rfl ?_
              refine p_goto 16 rfl rfl ?_
              -- leaf 1: loop 16 [some (.inr (.inr 24)), some (.inl fr), some (.inl x), some (.inl (m + 1)), some (.inr (.inl u)), none, some (.inl id)] st=[] h=h3 
              refine ih2 (m + 1) _ _ _ L2 h3 (by omega) (by omega) S3 k3 R3' (X2.full (by omega) (fun l => ?_))
              rintro (⟨id, r, len, e, g1, g2, g3⟩ | ⟨y, r, e, g1, g2, g3⟩)
              · exact ⟨id, r, len, e, g1, by omega, g3⟩
              · exact ⟨y, r, m, e, m1, by omega, by omega, g3⟩
            · skip
              refine p_lload 76 rfl rfl rfl ?_
              refine p_iload 78 rfl rfl rfl ?_
              refine p_lshr (z := u / 2 ^ (id).toNat) 79 rfl rfl (by omega) (by omega) rfl ?_
              refine p_lconst 80 rfl rfl ?_
              refine p_land (z := (u / 2 ^ (id).toNat) % 2) 81 rfl rfl (mask64 1 rfl (by decide)) ?_
              refine p_lconst 82 rfl rfl ?_
              refine p_lc_eq 83 86 102 rfl rfl rfl rfl rfl (fun c2 => ?_) (fun c2 => ?_)
              · skip
                refine p_iinc (y := id + 1) (ls' := [some (.inr (.inr 24)), some (.inl fr), some (.inl x), some (.inl m), some (.inr (.inl u)), none, some (.inl (id + 1))]) 105 rfl rfl rfl (w32_id ⟨(by omega), (by omega)⟩) rfl ?_
                refine p_goto 56 rfl rfl ?_
                -- leaf 2: loop 56 [some (.inr (.inr 24)), some (.inl fr), some (.inl x), some (.inl m), some (.inr (.inl u)), none, some (.inl (id + 1))] st=[] h=h3 
                have c2 : bit u id = 0 := c2
                exact step L2 h3 S3 k3 R3' ((Ext.refl r3 r4).imp (fun l => ⟨False.elim, fun ⟨r, _, g1, g2⟩ => absurd (hb.2 ⟨g1, r, g2⟩) (by omega)⟩))
              · skip
                refine p_aload 87 rfl rfl rfl ?_
                refine p_iload 88 rfl rfl rfl ?_
                refine p_iload 89 rfl rfl rfl ?_
                refine p_iadd (z := fr + m) 90 rfl rfl (w32_id ⟨(by omega), (by omega)⟩) ?_
                refine p_iload 91 rfl rfl rfl ?_
                refine p_const 93 rfl rfl ?_
                refine p_ishl (z := x * 64) 94 rfl rfl (by decide) (by decide) (w32_id (x := x * 64) ⟨(by omega), (by omega)⟩) ?_
                refine p_iload 96 rfl rfl rfl ?_
                refine p_const 97 rfl rfl ?_
                refine p_iadd (z := id + 1) 98 rfl rfl (w32_id ⟨(by omega), (by omega)⟩) ?_
                refine p_ior (z := or32 (x * 64) (id + 1)) 99 rfl rfl rfl ?_
                refine p_calls (le := [some (.inr (.inr 24)), some (.inl (fr + m)), some (.inl (or32 (x * 64) (id + 1))), none, none, none, none]) (as := [.inr (.inr 24), .inl (fr + m), .inl (or32 (x * 64) (id + 1))]) (rest := []) 102 0 0 0 0 rfl rfl (Nat.le_of_ble_eq_true rfl) rfl (Nat.le_of_ble_eq_true rfl) rfl rfl (Nat.le_of_ble_eq_true rfl) rfl (Nat.le_of_ble_eq_true rfl) rfl (Nat.le_refl _) (Nat.le_refl _) rfl rfl ?_
                refine ihs _ (fr + m) (or32 (x * 64) (id + 1)) (id :: p) L2 lim h3 (by omega) (by omega) (by omega) (by show ((p.length + 1 : Nat) : Int) ≤ fr + m; omega) (fun y hy => (List.mem_cons.mp hy).elim (fun e => by omega) (fun e => pk y e)) (by rw [or32_add64 hx2.1 (by omega) (by omega) (by omega), hx]; rfl) S3 k3 R3' (by omega) (fun y3 p3 S3 => ?_)
                show Wp (D + 3) 0 0 M_X5_spell 102 [some (.inr (.inr 24)), some (.inl fr), some (.inl x), some (.inl m), some (.inr (.inl u)), none, some (.inl id)] [] y3 _
                refine p_iinc (y := id + 1) (ls' := [some (.inr (.inr 24)), some (.inl fr), some (.inl x), some (.inl m), some (.inr (.inl u)), none, some (.inl (id + 1))]) 105 rfl rfl rfl (w32_id ⟨(by omega), (by omega)⟩) rfl ?_
                refine p_goto 56 rfl rfl ?_
                -- leaf 3: loop 56 [some (.inr (.inr 24)), some (.inl fr), some (.inl x), some (.inl m), some (.inr (.inl u)), none, some (.inl (id + 1))] st=[] h=y3 
                have c2 : ¬ bit u id = 0 := c2
                have b01 := bit_in u id
                have hb' := hb.1 (by omega)
                obtain ⟨q1, L', q2, q3⟩ := p3
                refine step L' _ S3 q1 q2 (q3.imp (fun l => ⟨?_, ?_⟩))
                · rintro ⟨r, e, z⟩; exact ⟨r, by rw [e, List.reverse_cons, List.append_assoc]; rfl, hb'.1, z⟩
                · rintro ⟨r, e, g1, g2⟩; exact ⟨r, by rw [e, List.reverse_cons, List.append_assoc]; rfl, g2⟩
        refine p_iload 17 rfl rfl rfl ?_
        refine p_iload 18 rfl rfl rfl ?_
        refine p_iadd (z := fr + m) 19 rfl rfl (w32_id ⟨(by omega), (by omega)⟩) ?_
        refine p_aload 20 rfl rfl rfl ?_
        refine p_getfi (j := 4) (z := (rl v)) 23 rfl rfl rfl (tg_24 S2) rfl hn2 ?_
        refine p_ic_gt_f 26 rfl rfl (by omega) ?_
        refine p_aload 27 rfl rfl rfl ?_
        refine p_getfr (j := 7) (z := 27) 30 rfl rfl rfl (tg_24 S2) rfl (fi_24_7 S2) ?_
        refine p_iload 31 rfl rfl rfl ?_
        refine p_iload 32 rfl rfl rfl ?_
        refine p_iadd (z := fr + m) 33 rfl rfl (w32_id ⟨(by omega), (by omega)⟩) ?_
        refine p_bald (w := 5) (z := gv h2 27 (fr + m)) 34 rfl rfl (Or.inr (tg_27 S2)) (ln_27 S2) (by omega) (by omega) rfl ?_
        refine p_if_eq 37 50 rfl rfl rfl (fun c1 => ?_) (fun c1 => ?_)
        · skip
          refine p_lconst 51 rfl rfl ?_
          refine p_lstore (ls' := [some (.inr (.inr 24)), some (.inl fr), some (.inl x), some (.inl m), some (.inr (.inl 0)), none, w3]) 53 rfl rfl (Nat.le_of_ble_eq_true rfl) rfl ?_
          refine p_const 54 rfl rfl ?_
          refine p_istore (ls' := [some (.inr (.inr 24)), some (.inl fr), some (.inl x), some (.inl m), some (.inr (.inl 0)), none, some (.inl 0)]) 56 rfl rfl (Nat.le_of_ble_eq_true rfl) rfl ?_
          -- leaf 1: loop 56 [some (.inr (.inr 24)), some (.inl fr), some (.inl x), some (.inl m), some (.inr (.inl 0)), none, some (.inl 0)] st=[] h=h2 
          have e27 := k2.1 27 (fr + m) rfl
          refine inner 40 0 0 L1 h2 (by omega) (by omega) S2 k2 R2 (fun y y0 y1 => ?_) (X.imp (fun l => ⟨Or.inl, fun z => z.elim id (fun ⟨y, r, _, _, _, _⟩ => by omega)⟩))
          rcases rf with ⟨q, _⟩ | ⟨_, q⟩
          · omega
          · rw [bit_zero]; exact ⟨fun z => absurd z (by decide), fun z => absurd z.2 q⟩
        · skip
          refine p_aload 38 rfl rfl rfl ?_
          refine p_getfr (j := 6) (z := 26) 41 rfl rfl rfl (tg_24 S2) rfl (fi_24_6 S2) ?_
          refine p_iload 42 rfl rfl rfl ?_
          refine p_const 43 rfl rfl ?_
          refine p_imul (z := fr * 5) 44 rfl rfl (w32_id ⟨(by omega), (by omega)⟩) ?_
          refine p_iload 45 rfl rfl rfl ?_
          refine p_iadd (z := (fr * 5) + m) 46 rfl rfl (w32_id ⟨(by omega), (by omega)⟩) ?_
          refine p_lald (w := 20) (z := gv h2 26 ((fr * 5) + m)) 47 rfl rfl (tg_26 S2) (ln_26 S2) (by omega) (by omega) rfl ?_
          refine p_goto 51 rfl rfl ?_
          refine p_lstore (ls' := [some (.inr (.inr 24)), some (.inl fr), some (.inl x), some (.inl m), some (.inr (.inl (gv h2 26 ((fr * 5) + m)))), none, w3]) 53 rfl rfl (Nat.le_of_ble_eq_true rfl) rfl ?_
          refine p_const 54 rfl rfl ?_
          refine p_istore (ls' := [some (.inr (.inr 24)), some (.inl fr), some (.inl x), some (.inl m), some (.inr (.inl (gv h2 26 ((fr * 5) + m)))), none, some (.inl 0)]) 56 rfl rfl (Nat.le_of_ble_eq_true rfl) rfl ?_
          -- leaf 2: loop 56 [some (.inr (.inr 24)), some (.inl fr), some (.inl x), some (.inl m), some (.inr (.inl (gv h2 26 ((fr * 5) + m)))), none, some (.inl 0)] st=[] h=h2 
          have e27 := k2.1 27 (fr + m) rfl
          refine inner 40 _ 0 L1 h2 (by omega) (by omega) S2 k2 R2 (fun y y0 y1 => ?_) (X.imp (fun l => ⟨Or.inl, fun z => z.elim id (fun ⟨y, r, _, _, _, _⟩ => by omega)⟩))
          rw [k2.1 26 _ rfl, nm.2 y y0 y1]
          rcases rf with ⟨_, q⟩ | ⟨q, _⟩
          · exact ⟨fun z => ⟨z, q⟩, fun z => z.1⟩
          · omega
    refine p_iload 1 rfl rfl rfl ?_
    refine p_aload 2 rfl rfl rfl ?_
    refine p_getfi (j := 4) (z := (rl v)) 5 rfl rfl rfl (tg_24 S1) rfl hn1 ?_
    refine p_ic_lt_t 14 rfl rfl (by omega) ?_
    refine p_const 15 rfl rfl ?_
    refine p_istore (ls' := [some (.inr (.inr 24)), some (.inl fr), some (.inl x), some (.inl 1), none, none, none]) 16 rfl rfl (Nat.le_of_ble_eq_true rfl) rfl ?_
    -- leaf 1: loop 16 [some (.inr (.inr 24)), some (.inl fr), some (.inl x), some (.inl 1), none, none, none] st=[] h=h1 
    exact outer (rl v - fr).toNat 1 none none none L h1 (by omega) (by omega) S1 kp R ((Ext.refl R.2.2.1 R.2.2.2.1).imp (fun l => ⟨False.elim, fun ⟨id, r, len, _, g1, g2, _⟩ => by omega⟩))
/-- what is found for the row v in lists up to lim, all of the readings' state else as it was -/
def rA (a i : Int) : Bool := decide ((a = 24 ∧ (i = 4 ∨ i = 9 ∨ i = 10)) ∨ (25 ≤ a ∧ a ≤ 28))
theorem rA_bkB : ∀ a i, bkB a i = false → rA a i = false := fun a i => dw (by omega)
theorem rA_xA : ∀ a i, xA a i = false → rA a i = false := fun a i => dw (by omega)
theorem slA_rA : ∀ a i, rA a i = false → slA a i = false := fun a i => dw (by omega)
theorem noA_rA : ∀ a i, rA a i = false → noA a i = false := fun a i => dw (by omega)
theorem SplX.kp {h1 h2 h : PH} {k s t z v : Int} (X : SplX h1 h k s t z v) (e : ∀ a i, (a = 24 ∧ i = 4) ∨ (25 ≤ a ∧ a ≤ 27) → gv h2 a i = gv h1 a i) : SplX h2 h k s t z v := by
  obtain ⟨a, b, c, d⟩ := X
  refine ⟨(e 24 4 (by omega)).trans a, fun fr len f0 l0 fl => ?_, fun fr len f0 l0 fl => ?_, fun fr f0 f1 => ?_⟩
  · rw [e 25 _ (by omega), e 26 _ (by omega)]; exact b fr len f0 l0 fl
  · rw [e 26 _ (by omega)]; exact c fr len f0 l0 fl
  · unfold Rf; rw [e 27 _ (by omega)]; exact d fr f0 f1
theorem RowsX.kp {h1 h2 : PH} {L : List (List Int)} {lim : Nat} (R : RowsX h1 L lim) (e : ∀ a i, (a = 24 ∧ (i = 9 ∨ i = 10)) ∨ a = 28 → gv h2 a i = gv h1 a i) : RowsX h2 L lim := by
  obtain ⟨a, b, c, d, f, g, i⟩ := R
  refine ⟨(e 24 9 (by omega)).trans a, (e 24 10 (by omega)).trans b, c, d, f, g, fun j l hl => (e 28 _ (by omega)).trans (i j l hl)⟩
theorem x_gather {d : Nat} {h : PH} {q : PQ} (S : Shape h) (v : Int) {a k s t z : Int} {L : List (List Int)} {lim : Nat} (R : BkR h a k) (Pr : Prep h a k s t z) (g : letters v) (RX : RowsX h L lim) (lt : L.length < lim)
    (K : ∀ h', (Keep rA h h' ∧ SplX h' h k s t z v ∧ ∃ L', RowsX h' L' lim ∧ Ext L L' lim (Rd (Ws h k s t z) v)) → Shape h' → q none h') : Wp (d + 7) 0 0 M_X5_gather 0 [some (.inr (.inr 24)), some (.inl v)] [] h q := by
  have b := rl_in v
  have vp := g.1
  have n40 := R.2.1
  refine p_aload 1 rfl rfl rfl ?_
  refine p_iload 2 rfl rfl rfl ?_
  refine p_callv (le := [some (.inr (.inr 24)), some (.inl v), none, none, none, none]) (as := [.inr (.inr 24), .inl v]) (rest := []) 5 0 0 0 0 rfl rfl (Nat.le_of_ble_eq_true rfl) rfl (Nat.le_of_ble_eq_true rfl) rfl rfl (Nat.le_of_ble_eq_true rfl) rfl (Nat.le_of_ble_eq_true rfl) rfl (Nat.le_refl _) (Nat.le_refl _) rfl rfl (tg_24 S) ?_
  refine x_split S v R Pr g (fun y1 p1 S1 => ?_)
  show Wp (d + 7) 0 0 M_X5_gather 5 [some (.inr (.inr 24)), some (.inl v)] [] y1 _
  refine p_aload 6 rfl rfl rfl ?_
  refine p_const 7 rfl rfl ?_
  refine p_const 8 rfl rfl ?_
  refine p_calls (le := [some (.inr (.inr 24)), some (.inl 0), some (.inl 0), none, none, none, none]) (as := [.inr (.inr 24), .inl 0, .inl 0]) (rest := []) 11 0 0 0 0 rfl rfl (Nat.le_of_ble_eq_true rfl) rfl (Nat.le_of_ble_eq_true rfl) rfl rfl (Nat.le_of_ble_eq_true rfl) rfl (Nat.le_of_ble_eq_true rfl) rfl (Nat.le_refl _) (Nat.le_refl _) rfl rfl ?_
  refine x_spell (fun c id w => w.in n40) p1.2.1 p1.2.2.2.1 p1.2.2.2.2 4 d _ 0 0 [] L lim y1 (by omega) (by omega) (by omega) (by decide) (fun y hy => absurd hy List.not_mem_nil) rfl S1 (Keep.rf _ _) (RX.kp (fun a i z => p1.1.1 a i (decide_eq_false (by omega)))) lt (fun y2 p2 S2 => ?_)
  show Wp (d + 7) 0 0 M_X5_gather 11 [some (.inr (.inr 24)), some (.inl v)] [] y2 _
  refine p_ret rfl rfl ?_
  -- leaf 1: answer [] h=y2 
  obtain ⟨k1, X1⟩ := p1
  obtain ⟨k2, L', q2, q3⟩ := p2
  exact K _ ⟨(k1.wide slA_rA).trans (k2.wide noA_rA), X1.kp (fun a i z => k2.1 a i (decide_eq_false (by omega))), L', q2, q3.imp (fun l => ⟨fun ⟨r, e, z⟩ => by rw [e]; exact z, fun z => ⟨l, rfl, z⟩⟩)⟩ S2
/-- the only way in which v is read, as a number; -1 where there are none or several -/
def PlainR (W : Int → Int → Prop) (v r : Int) : Prop := (∃ l, only (Rd W v) l ∧ r = enc l) ∨ ((¬ ∃ l, only (Rd W v) l) ∧ r = -1)
theorem SplX.base {h' h1 h : PH} {k s t z v : Int} (K : Keep bkB h h1) (X : SplX h' h1 k s t z v) : SplX h' h k s t z v := by
  obtain ⟨a, b, c, d⟩ := X
  rw [Ws_congr K] at c d
  refine ⟨a, fun fr len f0 l0 fl => ?_, c, d⟩
  obtain ⟨b1, b2, b3, b4⟩ := b fr len f0 l0 fl
  refine ⟨b1, b2, fun j j0 j1 => by rw [b3 j j0 j1, Us_congr K], fun id i0 i1 => (b4 id i0 i1).trans ?_⟩
  constructor
  · rintro ⟨j, x, y⟩; exact ⟨j, ⟨(Us_congr K _ _ _ _ _ _).1 x.1, x.2⟩, by rw [← fi_congr K]; exact y⟩
  · rintro ⟨j, x, y⟩; exact ⟨j, ⟨(Us_congr K _ _ _ _ _ _).2 x.1, x.2⟩, by rw [fi_congr K]; exact y⟩
theorem Prep.kp {h h1 : PH} {a k s t z : Int} {A : Int → Int → Bool} (P : Prep h a k s t z) (K : Keep A h h1) (hA : ∀ a i, bkB a i = false ∨ (a = 24 ∧ (i = 2 ∨ i = 3)) → A a i = false) : Prep h1 a k s t z := by
  obtain ⟨p1, p2, p3⟩ := P
  have K' : Keep bkB h h1 := K.wide (fun a i z => hA a i (Or.inl z))
  unfold Prep
  rw [K.1 24 2 (hA 24 2 (by omega)), K.1 24 3 (hA 24 3 (by omega)), K'.1 79 k rfl]
  exact ⟨p1, p2, fun j j0 j1 => by rw [tv_congr K']; exact p3 j j0 j1⟩
theorem rA_prep : ∀ a i, bkB a i = false ∨ (a = 24 ∧ (i = 2 ∨ i = 3)) → rA a i = false := fun a i z => decide_eq_false (fun y => by
  rcases z with z | z
  · exact of_decide_eq_false z (by omega)
  · omega)
theorem RowsX.nil {h : PH} {lim : Nat} (e9 : gv h 24 9 = 0) (e10 : gv h 24 10 = lim) (l1 : lim ≤ 100) : RowsX h [] lim := ⟨e9, e10, List.nodup_nil, Nat.zero_le _, l1, fun l hl => absurd hl List.not_mem_nil, fun i l hl => by cases hl⟩
theorem RowsX.first {h : PH} {l : List Int} {lim : Nat} (R : RowsX h [l] lim) : gv h 28 0 = enc l := R.2.2.2.2.2.2 0 l rfl
theorem x_plainRow {d : Nat} {h : PH} {q : PQ} (S : Shape h) (v : Int) {a k s t z : Int} (R : BkR h a k) (Pr : Prep h a k s t z) (g : letters v)
    (K : ∀ r h', (Keep rA h h' ∧ SplX h' h k s t z v ∧ PlainR (Ws h k s t z) v r) → Shape h' → q (some (.inl r)) h') : Wp (d + 7) 0 0 M_X5_plainRow 0 [some (.inr (.inr 24)), some (.inl v)] [] h q := by
  have b := rl_in v
  have vp := g.1
  have n40 := R.2.1
  refine p_aload 1 rfl rfl rfl ?_
  refine p_const 2 rfl rfl ?_
  refine p_callv (le := [some (.inr (.inr 24)), some (.inl 2)]) (as := [.inr (.inr 24), .inl 2]) (rest := []) 5 0 0 0 0 rfl rfl (Nat.le_of_ble_eq_true rfl) rfl (Nat.le_of_ble_eq_true rfl) rfl rfl (Nat.le_of_ble_eq_true rfl) rfl (Nat.le_of_ble_eq_true rfl) rfl (Nat.le_refl _) (Nat.le_refl _) rfl rfl (tg_24 S) ?_
  refine p_aload 1 rfl rfl rfl ?_
  refine p_const 2 rfl rfl ?_
  refine p_putfi (j := 9) 5 rfl rfl rfl (fun z => absurd z (by decide)) (tg_24 S) rfl ?_
  refine p_nmh (fun y1 e1 => ?_)
  have S1 : Shape y1 := by rw [e1]; exact S.svF ff_24_9 _
  have kp1 : Keep rA h y1 := by rw [e1]; exact (Keep.rf rA _).sv rfl _
  refine p_aload 6 rfl rfl rfl ?_
  refine p_iload 7 rfl rfl rfl ?_
  refine p_aload 8 rfl rfl rfl ?_
  refine p_getfr (j := 8) (z := 28) 11 rfl rfl rfl (tg_24 S1) rfl (fi_24_8 S1) ?_
  refine p_alen (w := 100) 12 rfl rfl (by rw [(tg_28 S1)]; decide) (ln_28 S1) ?_
  refine p_mini (z := min 2 100) 15 rfl rfl (Nat.succ_pos _) (Nat.le_of_ble_eq_true rfl) rfl ?_
  refine p_putfi (j := 10) 18 rfl rfl rfl (fun z => absurd z (by decide)) (tg_24 S1) rfl ?_
  refine p_nmh (fun y2 e2 => ?_)
  have S2 : Shape y2 := by rw [e2]; exact S1.svF ff_24_10 _
  have kp2 : Keep rA h y2 := by rw [e2]; exact kp1.sv rfl _
  refine p_ret rfl rfl ?_
  show Wp (d + 7) 0 0 M_X5_plainRow 5 [some (.inr (.inr 24)), some (.inl v)] [] y2 _
  refine p_aload 6 rfl rfl rfl ?_
  refine p_iload 7 rfl rfl rfl ?_
  refine p_callv (le := [some (.inr (.inr 24)), some (.inl v), none, none, none, none]) (as := [.inr (.inr 24), .inl v]) (rest := []) 10 0 0 0 0 rfl rfl (Nat.le_of_ble_eq_true rfl) rfl (Nat.le_of_ble_eq_true rfl) rfl rfl (Nat.le_of_ble_eq_true rfl) rfl (Nat.le_of_ble_eq_true rfl) rfl (Nat.le_refl _) (Nat.le_refl _) rfl rfl (tg_24 S2) ?_
  refine x_split S2 v (R.kp (kp2.wide rA_bkB)) (Pr.kp kp2 rA_prep) g (fun y3 p3 S3 => ?_)
  have kp3 : Keep rA h y3 := kp2.trans (p3.1.wide slA_rA)
  show Wp (d + 7) 0 0 M_X5_plainRow 10 [some (.inr (.inr 24)), some (.inl v)] [] y3 _
  have K2 : Keep bkB h y2 := kp2.wide rA_bkB
  have X3 := p3.2.base K2
  have RX : RowsX y2 [] 2 := RowsX.nil (by rw [e2, sv_nf (by decide), e1, sv_eq]) (by rw [e2, sv_eq]; decide) (by decide)
  refine p_aload 11 rfl rfl rfl ?_
  refine p_const 12 rfl rfl ?_
  refine p_const 13 rfl rfl ?_
  refine p_calls (le := [some (.inr (.inr 24)), some (.inl 0), some (.inl 0), none, none, none, none]) (as := [.inr (.inr 24), .inl 0, .inl 0]) (rest := []) 16 0 0 0 0 rfl rfl (Nat.le_of_ble_eq_true rfl) rfl (Nat.le_of_ble_eq_true rfl) rfl rfl (Nat.le_of_ble_eq_true rfl) rfl (Nat.le_of_ble_eq_true rfl) rfl (Nat.le_refl _) (Nat.le_refl _) rfl rfl ?_
  refine x_spell (fun c id w => w.in n40) X3.1 X3.2.2.1 X3.2.2.2 4 d _ 0 0 [] [] 2 y3 (by omega) (by omega) (by omega) (by decide) (fun y hy => absurd hy List.not_mem_nil) rfl S3 (Keep.rf _ _) (RX.kp (fun a i z => p3.1.1 a i (decide_eq_false (by omega)))) (by decide) (fun y4 p4 S4 => ?_)
  have kp4 : Keep rA h y4 := kp3.trans (p4.1.wide noA_rA)
  show Wp (d + 7) 0 0 M_X5_plainRow 16 [some (.inr (.inr 24)), some (.inl v)] [] y4 _
  obtain ⟨k4, L', q2, q3⟩ := p4
  have q4 : Ext [] L' 2 (Rd (Ws h k s t z) v) := q3.imp (fun l => ⟨fun ⟨r, e, z⟩ => by rw [e]; exact z, fun z => ⟨l, rfl, z⟩⟩)
  have X4 := X3.kp (h2 := y4) (fun a i z => k4.1 a i (decide_eq_false (by omega)))
  refine p_aload 17 rfl rfl rfl ?_
  refine p_getfi (j := 9) (z := gv y4 24 9) 20 rfl rfl rfl (tg_24 S4) rfl rfl ?_
  refine p_const 21 rfl rfl ?_
  refine p_ic_ne 24 33 rfl rfl rfl (fun c5 => ?_) (fun c5 => ?_)
  · skip
    refine p_const 34 rfl rfl ?_
    refine p_iret rfl rfl ?_
    -- leaf 1: answer [.inl (-1)] h=y4  kp4
    have q1 := q2.1
    exact K _ _ ⟨kp4, X4, Or.inr ⟨q4.not_only (by omega), rfl⟩⟩ S4
  · skip
    refine p_aload 25 rfl rfl rfl ?_
    refine p_getfr (j := 8) (z := 28) 28 rfl rfl rfl (tg_24 S4) rfl (fi_24_8 S4) ?_
    refine p_const 29 rfl rfl ?_
    refine p_iald (w := 100) (z := gv y4 28 0) 30 rfl rfl (tg_28 S4) (ln_28 S4) (by decide) (by decide) rfl ?_
    refine p_goto 34 rfl rfl ?_
    refine p_iret rfl rfl ?_
    -- leaf 2: answer [.inl (gv y4 28 0)] h=y4  kp4
    have q1 := q2.1
    obtain ⟨l, e⟩ := len_one (L := L') (by omega)
    subst e
    exact K _ _ ⟨kp4, X4, Or.inl ⟨l, q4.one_only, q2.first⟩⟩ S4
/-! the book as known -/
def kb (h : PH) : Int := bkAt h (nw h) (nw h).toNat
def xb (h : PH) : Int := gv h 19 (kb h)
theorem nw_congr {h h' : PH} (K : Keep bkB h h') : nw h' = nw h := by unfold nw; rw [K.1 18 6 rfl, K.1 18 5 rfl]
theorem kb_congr {h h' : PH} (K : Keep bkB h h') : kb h' = kb h := by unfold kb; rw [nw_congr K, bkAt_congr K]
theorem xb_congr {h h' : PH} (K : Keep bkB h h') : xb h' = xb h := by unfold xb; rw [kb_congr K, K.1 19 _ rfl]
theorem zh_congr {h h' : PH} (K : Keep bkB h h') (t : Int) : zh h' t = zh h t := hz_congr _ (fun t _ => ⟨K.1 89 _ rfl, K.1 90 _ rfl⟩)
theorem AI.kb {h : PH} (A : AI h) : (kb h = 0 ∧ xb h = 0) ∨ (1 ≤ kb h ∧ kb h ≤ 200 ∧ 128 ≤ xb h ∧ BkR h (xb h) (kb h)) := by
  have n := nw_in A
  rcases A.book (n := nw h) n.2 n.1 with z | ⟨z1, z2, z3⟩
  · exact Or.inl z
  · have z4 := z3
    obtain ⟨_, _, _, _, _, B, _⟩ := z4
    exact Or.inr ⟨z1, Int.le_trans z2 A.1.2.1, B.ge, z3⟩
theorem x_knownBook {d : Nat} {h : PH} {q : PQ} (S : Shape h) (A : AI h) (K : q (some (.inr (.inr (xb h)))) h) : Wp (d + 3) 0 0 M_X11_knownBook 0 [some (.inr (.inr 2))] [] h q := by
  have A0 := A
  have n := nw_in A
  refine p_aload 1 rfl rfl rfl ?_
  refine p_getfr (j := 3) (z := 18) 4 rfl rfl rfl (tg_2 S) rfl (fi_2_3 S) ?_
  refine p_aload 5 rfl rfl rfl ?_
  refine p_getfr (j := 3) (z := 18) 8 rfl rfl rfl (tg_2 S) rfl (fi_2_3 S) ?_
  refine p_callv (le := [some (.inr (.inr 18))]) (as := [.inr (.inr 18)]) (rest := [.inr (.inr 18)]) 11 0 0 0 0 rfl rfl (Nat.le_of_ble_eq_true rfl) rfl (Nat.le_of_ble_eq_true rfl) rfl rfl (Nat.le_of_ble_eq_true rfl) rfl (Nat.le_of_ble_eq_true rfl) rfl (Nat.le_refl _) (Nat.le_refl _) rfl rfl (tg_18 S) ?_
  refine x_knownAt S   ?_
  show Wp (d + 3) 0 0 M_X11_knownBook 11 [some (.inr (.inr 2))] [.inl (nw h), .inr (.inr 18)] h _
  refine p_callv (le := [some (.inr (.inr 18)), some (.inl (nw h)), none]) (as := [.inr (.inr 18), .inl (nw h)]) (rest := []) 14 0 0 0 0 rfl rfl (Nat.le_of_ble_eq_true rfl) rfl (Nat.le_of_ble_eq_true rfl) rfl rfl (Nat.le_of_ble_eq_true rfl) rfl (Nat.le_of_ble_eq_true rfl) rfl (Nat.le_refl _) (Nat.le_refl _) rfl rfl (tg_18 S) ?_
  refine x_bookAt S (nw h) (A0) (by omega) (by omega) ?_
  show Wp (d + 3) 0 0 M_X11_knownBook 14 [some (.inr (.inr 2))] [.inr (.inr (gv h 19 (bkAt h (nw h) ((nw h)).toNat)))] h _
  refine p_aret rfl rfl ?_
  -- leaf 1: answer [.inr (.inr (gv h 19 (bkAt h (nw h) ((nw h)).toNat)))] h=h 
  exact K
abbrev argR (h : PH) (v s t : Int) : Prop := kb h ≠ 0 ∧ letters v ∧ (0 ≤ s ∧ s < 10) ∧ (0 ≤ t ∧ t < 1000)
def ReadR (h : PH) (v s t r : Int) : Prop := (¬ argR h v s t ∧ r = -1) ∨ (argR h v s t ∧ ∃ L, Ext [] L 100 (Rd (Ws h (kb h) s t (zh h t)) v) ∧ r = L.length)
theorem ReadR.same {h h' : PH} {v s t r r' : Int} (a : ReadR h v s t r) (K : Keep bkB h h') (b : ReadR h' v s t r') : r = r' := by
  unfold ReadR argR at a b
  rw [kb_congr K, zh_congr K, Ws_congr K] at b
  rcases a with ⟨a1, a2⟩ | ⟨a1, L, a2, a3⟩ <;> rcases b with ⟨b1, b2⟩ | ⟨b1, M, b2, b3⟩
  · omega
  · exact absurd b1 a1
  · exact absurd a1 b1
  · have := a2.same b2; omega
theorem pA_xA : ∀ a i, xA a i = false → pA a i = false := fun a i => dw (by omega)
theorem x_read {d : Nat} {h : PH} {q : PQ} (S : Shape h) (A : AI h) (F : FI h) (v s t : Int) (K : ∀ r h', (Keep xA h h' ∧ ReadR h v s t r) → Shape h' → q (some (.inl r)) h') :
    Wp (d + 8) 0 0 M_X11_read 0 [some (.inr (.inr 2)), some (.inl v), some (.inl s), some (.inl t), none] [] h q := by
  have A0 := A
  have kb0 := A.kb
  refine p_aload 1 rfl rfl rfl ?_
  refine p_callv (le := [some (.inr (.inr 2))]) (as := [.inr (.inr 2)]) (rest := []) 4 0 0 0 0 rfl rfl (Nat.le_of_ble_eq_true rfl) rfl (Nat.le_of_ble_eq_true rfl) rfl rfl (Nat.le_of_ble_eq_true rfl) rfl (Nat.le_of_ble_eq_true rfl) rfl (Nat.le_refl _) (Nat.le_refl _) rfl rfl (tg_2 S) ?_
  refine x_knownBook S  (A0) ?_
  show Wp (d + 8) 0 0 M_X11_read 4 [some (.inr (.inr 2)), some (.inl v), some (.inl s), some (.inl t), none] [.inr (.inr (xb h))] h _
  refine p_astore (ls' := [some (.inr (.inr 2)), some (.inl v), some (.inl s), some (.inl t), some (.inr (.inr (xb h)))]) 6 rfl rfl (Nat.le_of_ble_eq_true rfl) rfl ?_
  refine p_aload 8 rfl rfl rfl ?_
  refine p_ifnull 11 32 rfl rfl rfl (fun c2 => ?_) (fun c2 => ?_)
  · skip
    refine p_const 33 rfl rfl ?_
    refine p_iret rfl rfl ?_
    -- leaf 1: answer [.inl (-1)] h=h 
    refine K _ _ ⟨Keep.rf _ _, Or.inl ⟨fun z => ?_, rfl⟩⟩ S
    rcases kb0 with w | w
    · exact z.1 w.1
    · omega
  · skip
    refine p_iload 12 rfl rfl rfl ?_
    refine p_calls (le := [some (.inl v), none, none, none]) (as := [.inl v]) (rest := []) 15 0 0 0 0 rfl rfl (Nat.le_of_ble_eq_true rfl) rfl (Nat.le_of_ble_eq_true rfl) rfl rfl (Nat.le_of_ble_eq_true rfl) rfl (Nat.le_of_ble_eq_true rfl) rfl (Nat.le_refl _) (Nat.le_refl _) rfl rfl ?_
    refine x_isLetters S v  (fun r3 p3 => ?_)
    show Wp (d + 8) 0 0 M_X11_read 15 [some (.inr (.inr 2)), some (.inl v), some (.inl s), some (.inl t), some (.inr (.inr (xb h)))] [.inl r3] h _
    refine p_if_eq 18 32 rfl rfl rfl (fun c4 => ?_) (fun c4 => ?_)
    · skip
      refine p_const 33 rfl rfl ?_
      refine p_iret rfl rfl ?_
      -- leaf 2: answer [.inl (-1)] h=h 
      refine K _ _ ⟨Keep.rf _ _, Or.inl ⟨fun z => ?_, rfl⟩⟩ S
      rcases p3 with w | w
      · omega
      · exact w.1 z.2.1
    · skip
      refine p_iload 19 rfl rfl rfl ?_
      refine p_calls (le := [some (.inl s)]) (as := [.inl s]) (rest := []) 22 0 0 0 0 rfl rfl (Nat.le_of_ble_eq_true rfl) rfl (Nat.le_of_ble_eq_true rfl) rfl rfl (Nat.le_of_ble_eq_true rfl) rfl (Nat.le_of_ble_eq_true rfl) rfl (Nat.le_refl _) (Nat.le_refl _) rfl rfl ?_
      refine x_isShip S s  (fun c5 => ?_) (fun c5 => ?_)
      · show Wp (d + 8) 0 0 M_X11_read 22 [some (.inr (.inr 2)), some (.inl v), some (.inl s), some (.inl t), some (.inr (.inr (xb h)))] [.inl 1] h _
        refine p_if_eq_f 25 rfl rfl (by decide) ?_
        refine p_iload 26 rfl rfl rfl ?_
        refine p_calls (le := [some (.inl t)]) (as := [.inl t]) (rest := []) 29 0 0 0 0 rfl rfl (Nat.le_of_ble_eq_true rfl) rfl (Nat.le_of_ble_eq_true rfl) rfl rfl (Nat.le_of_ble_eq_true rfl) rfl (Nat.le_of_ble_eq_true rfl) rfl (Nat.le_refl _) (Nat.le_refl _) rfl rfl ?_
        refine x_isMinute S t  (fun c6 => ?_) (fun c6 => ?_)
        · show Wp (d + 8) 0 0 M_X11_read 29 [some (.inr (.inr 2)), some (.inl v), some (.inl s), some (.inl t), some (.inr (.inr (xb h)))] [.inl 1] h _
          refine p_if_ne_t 34 rfl rfl (by decide) ?_
          refine p_aload 35 rfl rfl rfl ?_
          refine p_getfr (j := 4) (z := 24) 38 rfl rfl rfl (tg_2 S) rfl (fi_2_4 S) ?_
          refine p_aload 40 rfl rfl rfl ?_
          refine p_iload 41 rfl rfl rfl ?_
          refine p_iload 42 rfl rfl rfl ?_
          have R : BkR h (xb h) (kb h) := by rcases kb0 with w | w; exact absurd w.2 c2; exact w.2.2.2
          have kb1 : kb h ≠ 0 := by rcases kb0 with w | w; exact absurd w.2 c2; omega
          have g : letters v := by rcases p3 with w | w; exact w.1; exact absurd w.2 c4
          refine p_callv (le := [some (.inr (.inr 24)), some (.inr (.inr (xb h))), some (.inl s), some (.inl t), none]) (as := [.inr (.inr 24), .inr (.inr (xb h)), .inl s, .inl t]) (rest := []) 45 0 0 0 0 rfl rfl (Nat.le_of_ble_eq_true rfl) rfl (Nat.le_of_ble_eq_true rfl) rfl rfl (Nat.le_of_ble_eq_true rfl) rfl (Nat.le_of_ble_eq_true rfl) rfl (Nat.le_refl _) (Nat.le_refl _) rfl rfl (tg_24 S) ?_
          refine x_prepare S (xb h) s t R F c5 c6 (fun y7 p7 S7 => ?_)
          have kp7 : Keep xA h y7 := (p7.1.wide pA_xA)
          show Wp (d + 8) 0 0 M_X11_read 45 [some (.inr (.inr 2)), some (.inl v), some (.inl s), some (.inl t), some (.inr (.inr (xb h)))] [] y7 _
          refine p_aload 46 rfl rfl rfl ?_
          refine p_getfr (j := 4) (z := 24) 49 rfl rfl rfl (tg_2 S7) rfl (fi_2_4 S7) ?_
          refine p_const 51 rfl rfl ?_
          refine p_callv (le := [some (.inr (.inr 24)), some (.inl 100)]) (as := [.inr (.inr 24), .inl 100]) (rest := []) 54 0 0 0 0 rfl rfl (Nat.le_of_ble_eq_true rfl) rfl (Nat.le_of_ble_eq_true rfl) rfl rfl (Nat.le_of_ble_eq_true rfl) rfl (Nat.le_of_ble_eq_true rfl) rfl (Nat.le_refl _) (Nat.le_refl _) rfl rfl (tg_24 S7) ?_
          refine p_aload 1 rfl rfl rfl ?_
          refine p_const 2 rfl rfl ?_
          refine p_putfi (j := 9) 5 rfl rfl rfl (fun z => absurd z (by decide)) (tg_24 S7) rfl ?_
          refine p_nmh (fun y8 e8 => ?_)
          have S8 : Shape y8 := by rw [e8]; exact S7.svF ff_24_9 _
          have kp8 : Keep xA h y8 := by rw [e8]; exact kp7.sv rfl _
          refine p_aload 6 rfl rfl rfl ?_
          refine p_iload 7 rfl rfl rfl ?_
          refine p_aload 8 rfl rfl rfl ?_
          refine p_getfr (j := 8) (z := 28) 11 rfl rfl rfl (tg_24 S8) rfl (fi_24_8 S8) ?_
          refine p_alen (w := 100) 12 rfl rfl (by rw [(tg_28 S8)]; decide) (ln_28 S8) ?_
          refine p_mini (z := min 100 100) 15 rfl rfl (Nat.succ_pos _) (Nat.le_of_ble_eq_true rfl) rfl ?_
          refine p_putfi (j := 10) 18 rfl rfl rfl (fun z => absurd z (by decide)) (tg_24 S8) rfl ?_
          refine p_nmh (fun y9 e9 => ?_)
          have S9 : Shape y9 := by rw [e9]; exact S8.svF ff_24_10 _
          have kp9 : Keep xA h y9 := by rw [e9]; exact kp8.sv rfl _
          refine p_ret rfl rfl ?_
          show Wp (d + 8) 0 0 M_X11_read 54 [some (.inr (.inr 2)), some (.inl v), some (.inl s), some (.inl t), some (.inr (.inr (xb h)))] [] y9 _
          refine p_aload 55 rfl rfl rfl ?_
          refine p_getfr (j := 4) (z := 24) 58 rfl rfl rfl (tg_2 S9) rfl (fi_2_4 S9) ?_
          refine p_iload 59 rfl rfl rfl ?_
          have K79 : Keep rA y7 y9 := by rw [e9, e8]; exact ((Keep.rf _ _).sv rfl _).sv rfl _
          have RX : RowsX y9 [] 100 := RowsX.nil (by rw [e9, sv_nf (by decide), e8, sv_eq]) (by rw [e9, sv_eq]; decide) (by decide)
          refine p_callv (le := [some (.inr (.inr 24)), some (.inl v)]) (as := [.inr (.inr 24), .inl v]) (rest := []) 62 0 0 0 0 rfl rfl (Nat.le_of_ble_eq_true rfl) rfl (Nat.le_of_ble_eq_true rfl) rfl rfl (Nat.le_of_ble_eq_true rfl) rfl (Nat.le_of_ble_eq_true rfl) rfl (Nat.le_refl _) (Nat.le_refl _) rfl rfl (tg_24 S9) ?_
          refine x_gather S9 v (R.kp (kp9.wide xA_bkB)) (p7.2.kp K79 rA_prep) g RX (by decide) (fun y10 p10 S10 => ?_)
          have kp10 : Keep xA h y10 := kp9.trans (p10.1.wide rA_xA)
          show Wp (d + 8) 0 0 M_X11_read 62 [some (.inr (.inr 2)), some (.inl v), some (.inl s), some (.inl t), some (.inr (.inr (xb h)))] [] y10 _
          refine p_aload 63 rfl rfl rfl ?_
          refine p_getfr (j := 4) (z := 24) 66 rfl rfl rfl (tg_2 S10) rfl (fi_2_4 S10) ?_
          refine p_getfi (j := 9) (z := gv y10 24 9) 69 rfl rfl rfl (tg_24 S10) rfl rfl ?_
          refine p_iret rfl rfl ?_
          -- leaf 3: answer [.inl (gv y10 24 9)] h=y10  kp10
          obtain ⟨k10, X10, L', q2, q3⟩ := p10
          rw [Ws_congr (kp9.wide xA_bkB)] at q3
          refine K _ _ ⟨kp10, Or.inr ⟨⟨kb1, g, c5, c6⟩, L', q3, q2.1⟩⟩ S10
        · show Wp (d + 8) 0 0 M_X11_read 29 [some (.inr (.inr 2)), some (.inl v), some (.inl s), some (.inl t), some (.inr (.inr (xb h)))] [.inl 0] h _
          refine p_if_ne_f 32 rfl rfl (by decide) ?_
          refine p_const 33 rfl rfl ?_
          refine p_iret rfl rfl ?_
          -- leaf 4: answer [.inl (-1)] h=h 
          exact K _ _ ⟨Keep.rf _ _, Or.inl ⟨fun z => c6 z.2.2.2, rfl⟩⟩ S
      · show Wp (d + 8) 0 0 M_X11_read 22 [some (.inr (.inr 2)), some (.inl v), some (.inl s), some (.inl t), some (.inr (.inr (xb h)))] [.inl 0] h _
        refine p_if_eq_t 32 rfl rfl (by decide) ?_
        refine p_const 33 rfl rfl ?_
        refine p_iret rfl rfl ?_
        -- leaf 5: answer [.inl (-1)] h=h 
        exact K _ _ ⟨Keep.rf _ _, Or.inl ⟨fun z => c5 z.2.2.1, rfl⟩⟩ S

