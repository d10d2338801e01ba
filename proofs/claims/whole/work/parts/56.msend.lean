/-! SEND, the model's side -/
def tmA (a i : Int) : Bool := decide ((a = 66 ∧ i = 62) ∨ a = 109)
theorem tmA_bkB : ∀ a i, bkB a i = false → tmA a i = false := fun a i => dw (by omega)
theorem tmA_mA : ∀ a i, mA a i = false → tmA a i = false := fun a i => dw (by omega)
theorem tmA_open : ∀ a i, bkB a i = false ∨ (a = 66 ∧ i = 49) ∨ a = 100 ∨ a = 101 → tmA a i = false := fun a i z => decide_eq_false (fun y => by
  rcases z with z | z
  · exact of_decide_eq_false z (by omega)
  · omega)
def AdM (h : PH) (k r : Int) (h' : PH) : Prop := (r = 1 ∧ adOk h k ∧ gv h' 66 62 = gv h 2 10 ∧ ∀ i, 0 ≤ i → i < gv h 2 10 → gv h' 109 i = ids h k i) ∨ (r = 0 ∧ ¬ adOk h k)
theorem m_takes {d : Nat} {h : PH} {q : PQ} (S : Shape h) {k : Int} (hb : gv h 66 49 = k) (k0 : 0 ≤ k) (k1 : k ≤ 200) (m0 : 0 ≤ gv h 79 k) (m40 : gv h 79 k ≤ 40) (M : MI h) (K : ∀ r h', (Keep tmA h h' ∧ AdM h k r h') → Shape h' → q (some (.inl r)) h') :
    Wp (d + 1) 0 0 M_X12_takesMessage 0 [some (.inr (.inr 66)), none, none] [] h q := by
  obtain ⟨⟨M0, M1⟩, M2, M3⟩ := M
  have L : ∀ (c : Nat) (i : Int) (w : Option PV) (h1 : PH), i + c = gv h 2 10 → 0 ≤ i → Shape h1 → Keep tmA h h1 → gv h1 66 62 = gv h 2 10 → (∀ j, 0 ≤ j → j < i → gv h1 109 j = ids h k j ∧ ids h k j ≠ -1) →
      Wp (d + 1) 0 0 M_X12_takesMessage 10 [some (.inr (.inr 66)), some (.inl i), w] [] h1 q := by
    intro c
    induction c with
    | zero =>
      intro i w h1 hi i0 S1 kp b3 al
      have c59 : gv h1 66 59 = gv h 2 10 := (kp.1 66 59 rfl).trans M2
      refine p_iload 11 rfl rfl rfl ?_
      refine p_aload 12 rfl rfl rfl ?_
      refine p_getfi (j := 59) (z := (gv h 2 10)) 15 rfl rfl rfl (tg_66 S1) rfl c59 ?_
      refine p_ic_ge_t 96 rfl rfl (by omega) ?_
      refine p_aload 97 rfl rfl rfl ?_
      refine p_getfi (j := 59) (z := (gv h 2 10)) 100 rfl rfl rfl (tg_66 S1) rfl c59 ?_
      refine p_if_le 103 107 rfl rfl rfl (fun c1 => ?_) (fun c1 => ?_)
      · skip
        refine p_const 108 rfl rfl ?_
        refine p_zret rfl rfl (by decide) ?_
        -- leaf 1: answer [.inl 0] h=h1 
        exact K 0 h1 ⟨kp, Or.inr ⟨rfl, fun y => by have := y.1; omega⟩⟩ S1
      · skip
        refine p_const 104 rfl rfl ?_
        refine p_goto 108 rfl rfl ?_
        refine p_zret rfl rfl (by decide) ?_
        -- leaf 2: answer [.inl 1] h=h1 
        exact K 1 h1 ⟨kp, Or.inl ⟨rfl, ⟨by omega, fun j j0 j1 => (al j j0 (by omega)).2⟩, b3, fun j j0 j1 => (al j j0 (by omega)).1⟩⟩ S1
    | succ c ih =>
      intro i w h1 hi i0 S1 kp b3 al
      have c59 : gv h1 66 59 = gv h 2 10 := (kp.1 66 59 rfl).trans M2
      have c49 : gv h1 66 49 = k := (kp.1 66 49 rfl).trans hb
      have c79 : gv h1 79 k = gv h 79 k := kp.1 79 k rfl
      have J : ∀ (m : Nat) (j : Int) (h2 : PH), j = m - 1 → j < gv h 79 k → Shape h2 → Keep tmA h h2 → (∀ b x, b ≠ 109 ∨ x ≠ i → gv h2 b x = gv h1 b x) → ((gv h2 109 i = -1 ∧ ∀ y, j < y → y < gv h 79 k → nm h k y ≠ gv h 64 i) ∨ ((j < gv h2 109 i ∧ gv h2 109 i < gv h 79 k) ∧ nm h k (gv h2 109 i) = gv h 64 i ∧ ∀ y, j < y → y < gv h2 109 i → nm h k y ≠ gv h 64 i)) →
          Wp (d + 1) 0 0 M_X12_takesMessage 37 [some (.inr (.inr 66)), some (.inl i), some (.inl j)] [] h2 q := by
        intro m
        induction m with
        | zero =>
          intro j h2 hj jm S2 k2 o2 hv
          have jj : j = -1 := by omega
          have isf : isF (nm h k) (gv h 79 k) (gv h 64 i) (gv h2 109 i) := by
            rcases hv with ⟨a, b⟩ | ⟨⟨a1, a2⟩, b, c⟩
            · exact Or.inr ⟨a, fun y y0 y1 => b y (by omega) y1⟩
            · exact Or.inl ⟨by omega, a2, b, fun y y0 y1 => c y (by omega) y1⟩
          have e : gv h2 109 i = ids h k i := by
            have y := isF_frs (nm h k) (gv h 64 i) (gv h 79 k).toNat
            rw [Int.toNat_of_nonneg m0] at y
            exact isF_same isf y
          refine p_iload 38 rfl rfl rfl ?_
          refine p_if_lt_t 78 rfl rfl (by omega) ?_
          refine p_aload 79 rfl rfl rfl ?_
          refine p_getfr (j := 63) (z := 109) 82 rfl rfl rfl (tg_66 S2) rfl (fi_66_63 S2) ?_
          refine p_iload 83 rfl rfl rfl ?_
          refine p_iald (w := 12) (z := gv h2 109 i) 84 rfl rfl (tg_109 S2) (ln_109 S2) (by omega) (by omega) rfl ?_
          refine p_const 85 rfl rfl ?_
          refine p_ic_ne 88 90 rfl rfl rfl (fun c1 => ?_) (fun c1 => ?_)
          · skip
            refine p_iinc (y := i + 1) (ls' := [some (.inr (.inr 66)), some (.inl (i + 1)), some (.inl j)]) 93 rfl rfl rfl (w32_id ⟨(by omega), (by omega)⟩) rfl ?_
            refine p_goto 10 rfl rfl ?_
            -- leaf 1: loop 10 [some (.inr (.inr 66)), some (.inl (i + 1)), some (.inl j)] st=[] h=h2 
            refine ih (i + 1) _ h2 (by omega) (by omega) S2 k2 ((o2 66 62 (by omega)).trans b3) (fun y y0 y1 => ?_)
            by_cases z : y = i
            · rw [z]; exact ⟨e, by rw [← e]; assumption⟩
            · rw [o2 109 y (by omega)]; exact al y y0 (by omega)
          · skip
            refine p_const 89 rfl rfl ?_
            refine p_zret rfl rfl (by decide) ?_
            -- leaf 2: answer [.inl 0] h=h2 
            exact K 0 h2 ⟨k2, Or.inr ⟨rfl, fun y => y.2 i i0 (by omega) (by rw [← e]; omega)⟩⟩ S2
        | succ m ihm =>
          intro j h2 hj jm S2 k2 o2 hv
          have q49 : gv h2 66 49 = k := (k2.1 66 49 rfl).trans hb
          have q80 : gv h2 80 (40 * k + j) = nm h k j := k2.1 80 _ rfl
          have q107 : gv h2 107 i = gv h 64 i := (k2.1 107 i rfl).trans (M3 i i0 (by omega))
          refine p_iload 38 rfl rfl rfl ?_
          refine p_if_lt_f 41 rfl rfl (by omega) ?_
          refine p_aload 42 rfl rfl rfl ?_
          refine p_getfr (j := 21) (z := 80) 45 rfl rfl rfl (tg_66 S2) rfl (fi_66_21 S2) ?_
          refine p_const 47 rfl rfl ?_
          refine p_aload 48 rfl rfl rfl ?_
          refine p_getfi (j := 49) (z := k) 51 rfl rfl rfl (tg_66 S2) rfl q49 ?_
          refine p_imul (z := 40 * k) 52 rfl rfl (w32_id ⟨(by omega), (by omega)⟩) ?_
          refine p_iload 53 rfl rfl rfl ?_
          refine p_iadd (z := (40 * k) + j) 54 rfl rfl (w32_id ⟨(by omega), (by omega)⟩) ?_
          refine p_lald (w := 8040) (z := (nm h k j)) 55 rfl rfl (tg_80 S2) (ln_80 S2) (by omega) (by omega) q80 ?_
          refine p_aload 56 rfl rfl rfl ?_
          refine p_getfr (j := 60) (z := 107) 59 rfl rfl rfl (tg_66 S2) rfl (fi_66_60 S2) ?_
          refine p_iload 60 rfl rfl rfl ?_
          refine p_lald (w := 12) (z := (gv h 64 i)) 61 rfl rfl (tg_107 S2) (ln_107 S2) (by omega) (by omega) q107 ?_
          refine p_lc_ne 62 65 72 rfl rfl rfl rfl rfl (fun c1 => ?_) (fun c1 => ?_)
          · skip
            refine p_iinc (y := j - 1) (ls' := [some (.inr (.inr 66)), some (.inl i), some (.inl (j - 1))]) 75 rfl rfl rfl (wsub_id ⟨(by omega), (by omega)⟩) rfl ?_
            refine p_goto 37 rfl rfl ?_
            -- leaf 1: loop 37 [some (.inr (.inr 66)), some (.inl i), some (.inl (j - 1))] st=[] h=h2 
            refine ihm (j - 1) h2 (by omega) (by omega) S2 k2 o2 ?_
            rcases hv with ⟨a, b⟩ | ⟨a, b, c'⟩
            · refine Or.inl ⟨a, fun y y0 y1 => ?_⟩
              by_cases z : y = j
              · rw [z]; assumption
              · exact b y (by omega) y1
            · refine Or.inr ⟨⟨by omega, a.2⟩, b, fun y y0 y1 => ?_⟩
              by_cases z : y = j
              · rw [z]; assumption
              · exact c' y (by omega) y1
          · skip
            refine p_aload 66 rfl rfl rfl ?_
            refine p_getfr (j := 63) (z := 109) 69 rfl rfl rfl (tg_66 S2) rfl (fi_66_63 S2) ?_
            refine p_iload 70 rfl rfl rfl ?_
            refine p_iload 71 rfl rfl rfl ?_
            refine p_iast (w := 12) 72 rfl rfl (by decide) (tg_109 S2) (ln_109 S2) (by omega) (by omega) ?_
            refine p_nmh (fun y2 e2 => ?_)
            have S2 : Shape y2 := by rw [e2]; exact S2.svA fa_109 _ _
            refine p_iinc (y := j - 1) (ls' := [some (.inr (.inr 66)), some (.inl i), some (.inl (j - 1))]) 75 rfl rfl rfl (wsub_id ⟨(by omega), (by omega)⟩) rfl ?_
            refine p_goto 37 rfl rfl ?_
            -- leaf 2: loop 37 [some (.inr (.inr 66)), some (.inl i), some (.inl (j - 1))] st=[] h=y2 e2
            have ej : gv y2 109 i = j := by rw [e2, sv_eq]
            refine ihm (j - 1) _ (by omega) (by omega) S2 (by rw [e2]; exact k2.sv rfl _) (fun b x hx => ?_) (Or.inr ⟨⟨by omega, by omega⟩, by rw [ej]; omega, fun y y0 y1 => by omega⟩)
            rw [← o2 b x hx, e2]
            rcases hx with z | z
            · exact sv_ne z
            · exact sv_nf z
      refine p_iload 11 rfl rfl rfl ?_
      refine p_aload 12 rfl rfl rfl ?_
      refine p_getfi (j := 59) (z := (gv h 2 10)) 15 rfl rfl rfl (tg_66 S1) rfl c59 ?_
      refine p_ic_ge_f 18 rfl rfl (by omega) ?_
      refine p_aload 19 rfl rfl rfl ?_
      refine p_getfr (j := 63) (z := 109) 22 rfl rfl rfl (tg_66 S1) rfl (fi_66_63 S1) ?_
      refine p_iload 23 rfl rfl rfl ?_
      refine p_const 24 rfl rfl ?_
      refine p_iast (w := 12) 25 rfl rfl (by decide) (tg_109 S1) (ln_109 S1) (by omega) (by omega) ?_
      refine p_nmh (fun y1 e1 => ?_)
      have S1 : Shape y1 := by rw [e1]; exact S1.svA fa_109 _ _
      have kp1 : Keep tmA h y1 := by rw [e1]; exact kp.sv rfl _
      refine p_aload 26 rfl rfl rfl ?_
      refine p_getfr (j := 20) (z := 79) 29 rfl rfl rfl (tg_66 S1) rfl (fi_66_20 S1) ?_
      refine p_aload 30 rfl rfl rfl ?_
      refine p_getfi (j := 49) (z := k) 33 rfl rfl rfl (tg_66 S1) rfl (by rw [e1, sv_ne (by decide)]; exact c49) ?_
      refine p_iald (w := 201) (z := (gv h 79 k)) 34 rfl rfl (tg_79 S1) (ln_79 S1) (by omega) (by omega) (by rw [e1, sv_ne (by decide)]; exact c79) ?_
      refine p_const 35 rfl rfl ?_
      refine p_isub (z := (gv h 79 k) - 1) 36 rfl rfl (w32_id ⟨(by omega), (by omega)⟩) ?_
      refine p_istore (ls' := [some (.inr (.inr 66)), some (.inl i), some (.inl ((gv h 79 k) - 1))]) 37 rfl rfl (Nat.le_of_ble_eq_true rfl) rfl ?_
      -- leaf 1: loop 37 [some (.inr (.inr 66)), some (.inl i), some (.inl ((gv h 79 k) - 1))] st=[] h=y1 e1 kp1
      refine J (gv h 79 k).toNat (gv h 79 k - 1) _ (by omega) (by omega) S1 kp1 (fun b x hx => ?_) (Or.inl ⟨by rw [e1, sv_eq], fun y y0 y1 => by omega⟩)
      rw [e1]
      rcases hx with z | z
      · exact sv_ne z
      · exact sv_nf z
  refine p_aload 1 rfl rfl rfl ?_
  refine p_aload 2 rfl rfl rfl ?_
  refine p_getfi (j := 59) (z := (gv h 2 10)) 5 rfl rfl rfl (tg_66 S) rfl M2 ?_
  refine p_putfi (j := 62) 8 rfl rfl rfl (fun z => absurd z (by decide)) (tg_66 S) rfl ?_
  refine p_nmh (fun y1 e1 => ?_)
  have S1 : Shape y1 := by rw [e1]; exact S.svF ff_66_62 _
  have kp1 : Keep tmA h y1 := by rw [e1]; exact (Keep.rf tmA _).sv rfl _
  refine p_const 9 rfl rfl ?_
  refine p_istore (ls' := [some (.inr (.inr 66)), some (.inl 0), none]) 10 rfl rfl (Nat.le_of_ble_eq_true rfl) rfl ?_
  -- leaf 1: loop 10 [some (.inr (.inr 66)), some (.inl 0), none] st=[] h=y1 e1 kp1
  exact L (gv h 2 10).toNat 0 _ _ (by omega) (by omega) S1 kp1 (by rw [e1, sv_eq]) (fun j j0 j1 => by omega)
def SendM (h : PH) (s t r : Int) (h' : PH) : Prop := (¬ sOk h s t ∧ r = -1 ∧ gv h' 66 68 = gv h 66 68 ∧ ∀ i, gv h' 114 i = gv h 114 i) ∨ (sOk h s t ∧ r = (sB h s t 0).1 ∧ gv h' 66 68 = r ∧ ∀ (j : Nat) w, (sH h s t)[j]? = some w → gv h' 114 j = w)
def smA (a i : Int) : Bool := decide ((a = 66 ∧ (i = 38 ∨ i = 48 ∨ i = 49 ∨ i = 52 ∨ i = 56 ∨ i = 62 ∨ i = 68)) ∨ (92 ≤ a ∧ a ≤ 93) ∨ (99 ≤ a ∧ a ≤ 106) ∨ (109 ≤ a ∧ a ≤ 114))
theorem mA_smA : ∀ a i, smA a i = false → mA a i = false := fun a i => dw (by omega)
theorem moA_smA : ∀ a i, smA a i = false → moA a i = false := fun a i => dw (by omega)
theorem tmA_smA : ∀ a i, smA a i = false → tmA a i = false := fun a i => dw (by omega)
theorem msA_smA : ∀ a i, smA a i = false → msA a i = false := fun a i => dw (by omega)
theorem smA_bkB : ∀ a i, bkB a i = false → smA a i = false := fun a i => dw (by omega)
def spaA (a i : Int) : Bool := decide ((a = 66 ∧ i = 68) ∨ a = 114)
theorem spaA_smA : ∀ a i, smA a i = false → spaA a i = false := fun a i => dw (by omega)
theorem m_sentLoop {d : Nat} {g : PH} {q : PQ} {n : Int} {B : Int → Q4t} {hst : Int → Int} {pln : Int → Prop} (ok : ∀ i, 0 ≤ i → i ≤ n → bOk hst pln n B i) (n1 : 1 ≤ n) (n12 : n ≤ 12) (b0 : (B 0).1 < 1000) (s t b : Int) (hn : gv g 66 62 = n) (ce : ∀ i, 0 ≤ i → i ≤ n → PMn g n i (B i))
    (K : ∀ h', (Keep spaA g h' ∧ gv h' 66 68 = (B 0).1 ∧ ∀ (j : Nat) w, (pth B n n.toNat 0)[j]? = some w → gv h' 114 j = w) → Shape h' → q (some (.inl (B 0).1)) h') :
    ∀ (f : Nat) (i : Int) (D : List Int) (h1 : PH), n - i ≤ f → 0 ≤ i → i ≤ n → (B i).1 < 1000 → (pth B n n.toNat 0) = D ++ pth B n f i → Shape h1 → Keep spaA g h1 → gv h1 66 68 = D.length → (∀ (j : Nat) w, D[j]? = some w → gv h1 114 j = w) →
      Wp (d + 1) 0 0 M_X12_send 61 [some (.inr (.inr 66)), some (.inl s), some (.inl t), some (.inl b), some (.inl i)] [] h1 q := by
  have len0 := pth_len ok n.toNat 0 (by omega) (Int.le_refl 0) (by omega) b0
  have bb0 : (B 0).1 ≤ 12 := by
    rcases ok 0 (Int.le_refl 0) (by omega) with y | ⟨y, _⟩ <;> omega
  have E : ∀ (f : Nat) (i : Int) (D : List Int) (h1 : PH), i = n → (pth B n n.toNat 0) = D ++ pth B n f i → Shape h1 → Keep spaA g h1 → gv h1 66 68 = D.length → (∀ (j : Nat) w, D[j]? = some w → gv h1 114 j = w) →
      Wp (d + 1) 0 0 M_X12_send 61 [some (.inr (.inr 66)), some (.inl s), some (.inl t), some (.inl b), some (.inl i)] [] h1 q := by
    intro f i D h1 hi hp S1 kp he hD
    subst hi
    rw [pth_end (Int.le_refl i), List.append_nil] at hp
    have c62 : gv h1 66 62 = i := (kp.1 66 62 rfl).trans hn
    have e68 : gv h1 66 68 = (B 0).1 := by rw [he, ← len0, hp]
    refine p_iload 63 rfl rfl rfl ?_
    refine p_aload 64 rfl rfl rfl ?_
    refine p_getfi (j := 62) (z := i) 67 rfl rfl rfl (tg_66 S1) rfl c62 ?_
    refine p_ic_ge_t 108 rfl rfl (by omega) ?_
    refine p_aload 109 rfl rfl rfl ?_
    refine p_getfi (j := 68) (z := (B 0).1) 112 rfl rfl rfl (tg_66 S1) rfl e68 ?_
    refine p_iret rfl rfl ?_
    -- leaf 1: answer [.inl ((B 0).1)] h=h1 
    exact K h1 ⟨kp, e68, by rw [hp]; exact hD⟩ S1
  intro f
  induction f with
  | zero =>
    intro i D h1 hf i0 i1 bi hp S1 kp he hD
    exact E 0 i D h1 (by omega) hp S1 kp he hD
  | succ f ih =>
    intro i D h1 hf i0 i1 bi hp S1 kp he hD
    by_cases z : i < n
    · have c62 : gv h1 66 62 = n := (kp.1 66 62 rfl).trans hn
      have pl := pth_len ok (f + 1) i (by omega) i0 i1 bi
      have len : (D.length : Int) + (pth B n (f + 1) i).length = (B 0).1 := by rw [← len0, hp, List.length_append]; rfl
      have bk := ok i i0 i1
      have cei := ce i i0 i1
      rcases cei with cei | ⟨_, _, _, cei⟩
      · omega
      obtain ⟨g112, g113⟩ := cei z
      have e112 : gv h1 112 i = (B i).2.2.1 := (kp.1 112 i rfl).trans g112
      have e113 : gv h1 113 i = (B i).2.2.2 := (kp.1 113 i rfl).trans g113
      rcases bk with y | ⟨⟨y1, y1'⟩, y2, y3⟩
      · omega
      obtain ⟨⟨z1, z2⟩, z3, z4, _⟩ := y3 z
      have z5 : 0 ≤ (B (B i).2.2.2).1 := by
        rcases ok (B i).2.2.2 (by omega) z2 with y | ⟨y, _⟩ <;> omega
      refine p_iload 63 rfl rfl rfl ?_
      refine p_aload 64 rfl rfl rfl ?_
      refine p_getfi (j := 62) (z := n) 67 rfl rfl rfl (tg_66 S1) rfl c62 ?_
      refine p_ic_ge_f 70 rfl rfl (by omega) ?_
      refine p_aload 71 rfl rfl rfl ?_
      refine p_getfr (j := 69) (z := 114) 74 rfl rfl rfl (tg_66 S1) rfl (fi_66_69 S1) ?_
      refine p_aload 75 rfl rfl rfl ?_
      refine p_getfi (j := 68) (z := D.length) 78 rfl rfl rfl (tg_66 S1) rfl he ?_
      refine p_aload 79 rfl rfl rfl ?_
      refine p_getfr (j := 66) (z := 112) 82 rfl rfl rfl (tg_66 S1) rfl (fi_66_66 S1) ?_
      refine p_iload 84 rfl rfl rfl ?_
      refine p_iald (w := 13) (z := (B i).2.2.1) 85 rfl rfl (tg_112 S1) (ln_112 S1) (by omega) (by omega) e112 ?_
      refine p_iast (w := 12) 86 rfl rfl (by decide) (tg_114 S1) (ln_114 S1) (by omega) (by omega) ?_
      refine p_nmh (fun y1 e1 => ?_)
      have S1 : Shape y1 := by rw [e1]; exact S1.svA fa_114 _ _
      refine p_aload 87 rfl rfl rfl ?_
      refine p_dup 88 rfl rfl nl_r ?_
      refine p_getfi (j := 68) (z := D.length) 91 rfl rfl rfl (tg_66 S1) rfl (by rw [e1, sv_ne (by decide)]; exact he) ?_
      refine p_const 92 rfl rfl ?_
      refine p_iadd (z := D.length + 1) 93 rfl rfl (w32_id ⟨(by omega), (by omega)⟩) ?_
      refine p_putfi (j := 68) 96 rfl rfl rfl (fun z => absurd z (by decide)) (tg_66 S1) rfl ?_
      refine p_nmh (fun y2 e2 => ?_)
      have S2 : Shape y2 := by rw [e2]; exact S1.svF ff_66_68 _
      refine p_aload 97 rfl rfl rfl ?_
      refine p_getfr (j := 67) (z := 113) 100 rfl rfl rfl (tg_66 S2) rfl (fi_66_67 S2) ?_
      refine p_iload 102 rfl rfl rfl ?_
      refine p_iald (w := 13) (z := (B i).2.2.2) 103 rfl rfl (tg_113 S2) (ln_113 S2) (by omega) (by omega) (by rw [e2, sv_ne (by decide)]; rw [e1, sv_ne (by decide)]; exact e113) ?_
      refine p_istore (ls' := [some (.inr (.inr 66)), some (.inl s), some (.inl t), some (.inl b), some (.inl ((B i).2.2.2))]) 105 rfl rfl (Nat.le_of_ble_eq_true rfl) rfl ?_
      refine p_goto 61 rfl rfl ?_
      -- leaf 1: loop 61 [some (.inr (.inr 66)), some (.inl s), some (.inl t), some (.inl b), some (.inl ((B i).2.2.2))] st=[] h=y2 e2,e1
      refine ih _ (D ++ [(B i).2.2.1]) _ (by omega) (by omega) z2 z3 ?_ S2 (by rw [e2, e1]; exact (kp.sv rfl _).sv rfl _) ?_ ?_
      · rw [hp, List.append_assoc]; exact congrArg _ (if_pos z)
      · rw [e2, e1, sv_eq, List.length_append]; rfl
      · intro j w hj
        rw [e2, e1, sv_ne (by decide)]
        by_cases y : j < D.length
        · rw [List.getElem?_append_left y] at hj; rw [sv_nf (by omega)]; exact hD j w hj
        · rw [List.getElem?_append_right (by omega)] at hj
          have y0 : j = D.length := by
            apply Decidable.byContradiction
            intro y0
            rw [List.getElem?_eq_none (by show 1 ≤ j - D.length; omega)] at hj
            cases hj
          rw [y0, Nat.sub_self] at hj
          have hj : some (B i).2.2.1 = some w := hj
          cases hj
          rw [y0, sv_eq]
    · exact E (f + 1) i D h1 (by omega) hp S1 kp he hD
theorem m_send {d : Nat} {h : PH} {q : PQ} (S : Shape h) (A : AI h) (F : FI h) (M : MI h) (s t : Int) (K : ∀ r h', (Keep smA h h' ∧ SendM h s t r h') → Shape h' → q (some (.inl r)) h') :
    Wp (d + 10) 0 0 M_X12_send 0 [some (.inr (.inr 66)), some (.inl s), some (.inl t), none, none] [] h q := by
  have A0 := A
  have kb0 := A.kb
  have nwi := nw_in A
  have zhi := fun t0 t1 => zh_in F (t := t) t0 t1
  obtain ⟨⟨M0, M1⟩, _, _⟩ := id M
  have no : ∀ h', ¬ sOk h s t → Keep smA h h' → (∀ a i, (a = 66 ∧ i = 68) ∨ a = 114 → gv h' a i = gv h a i) → Keep smA h h' ∧ SendM h s t (-1) h' := fun h' n k e => ⟨k, Or.inl ⟨n, rfl, e 66 68 (by omega), fun i => e 114 i (by omega)⟩⟩
  refine p_aload 1 rfl rfl rfl ?_
  refine p_aload 2 rfl rfl rfl ?_
  refine p_callv (le := [some (.inr (.inr 66))]) (as := [.inr (.inr 66)]) (rest := [.inr (.inr 66)]) 5 0 0 0 0 rfl rfl (Nat.le_of_ble_eq_true rfl) rfl (Nat.le_of_ble_eq_true rfl) rfl rfl (Nat.le_of_ble_eq_true rfl) rfl (Nat.le_of_ble_eq_true rfl) rfl (Nat.le_refl _) (Nat.le_refl _) rfl rfl (tg_66 S) ?_
  refine m_now S  (A0) ?_
  show Wp (d + 10) 0 0 M_X12_send 5 [some (.inr (.inr 66)), some (.inl s), some (.inl t), none, none] [.inl (nw h), .inr (.inr 66)] h _
  refine p_callv (le := [some (.inr (.inr 66)), some (.inl (nw h)), none, none]) (as := [.inr (.inr 66), .inl (nw h)]) (rest := []) 8 0 0 0 0 rfl rfl (Nat.le_of_ble_eq_true rfl) rfl (Nat.le_of_ble_eq_true rfl) rfl rfl (Nat.le_of_ble_eq_true rfl) rfl (Nat.le_of_ble_eq_true rfl) rfl (Nat.le_refl _) (Nat.le_refl _) rfl rfl (tg_66 S) ?_
  refine m_bookAt S (nw h) A (by omega) (by omega) ?_
  show Wp (d + 10) 0 0 M_X12_send 8 [some (.inr (.inr 66)), some (.inl s), some (.inl t), none, none] [.inl (kb h)] h _
  refine p_istore (ls' := [some (.inr (.inr 66)), some (.inl s), some (.inl t), some (.inl (kb h)), none]) 9 rfl rfl (Nat.le_of_ble_eq_true rfl) rfl ?_
  refine p_iload 10 rfl rfl rfl ?_
  refine p_if_eq 13 27 rfl rfl rfl (fun c2 => ?_) (fun c2 => ?_)
  · skip
    refine p_const 28 rfl rfl ?_
    refine p_iret rfl rfl ?_
    -- leaf 1: answer [.inl (-1)] h=h 
    exact K _ _ (no _ (fun y => y.1.1 c2) (Keep.rf _ _) (fun _ _ _ => rfl)) S
  · skip
    obtain ⟨kb1, kb2, _, R⟩ : 1 ≤ kb h ∧ kb h ≤ 200 ∧ 128 ≤ xb h ∧ BkR h (xb h) (kb h) := by rcases kb0 with w | w; exact absurd w.1 c2; exact w
    refine p_iload 14 rfl rfl rfl ?_
    refine p_calls (le := [some (.inl s)]) (as := [.inl s]) (rest := []) 17 0 0 0 0 rfl rfl (Nat.le_of_ble_eq_true rfl) rfl (Nat.le_of_ble_eq_true rfl) rfl rfl (Nat.le_of_ble_eq_true rfl) rfl (Nat.le_of_ble_eq_true rfl) rfl (Nat.le_refl _) (Nat.le_refl _) rfl rfl ?_
    refine m_isShip S s  (fun c3 => ?_) (fun c3 => ?_)
    · show Wp (d + 10) 0 0 M_X12_send 17 [some (.inr (.inr 66)), some (.inl s), some (.inl t), some (.inl (kb h)), none] [.inl 1] h _
      refine p_if_eq_f 20 rfl rfl (by decide) ?_
      refine p_iload 21 rfl rfl rfl ?_
      refine p_calls (le := [some (.inl t)]) (as := [.inl t]) (rest := []) 24 0 0 0 0 rfl rfl (Nat.le_of_ble_eq_true rfl) rfl (Nat.le_of_ble_eq_true rfl) rfl rfl (Nat.le_of_ble_eq_true rfl) rfl (Nat.le_of_ble_eq_true rfl) rfl (Nat.le_refl _) (Nat.le_refl _) rfl rfl ?_
      refine m_isMinute S t  (fun c4 => ?_) (fun c4 => ?_)
      · show Wp (d + 10) 0 0 M_X12_send 24 [some (.inr (.inr 66)), some (.inl s), some (.inl t), some (.inl (kb h)), none] [.inl 1] h _
        refine p_if_ne_t 29 rfl rfl (by decide) ?_
        refine p_aload 30 rfl rfl rfl ?_
        refine p_iload 31 rfl rfl rfl ?_
        refine p_iload 32 rfl rfl rfl ?_
        refine p_iload 33 rfl rfl rfl ?_
        refine p_callv (le := [some (.inr (.inr 66)), some (.inl (kb h)), some (.inl s), some (.inl t), none, none]) (as := [.inr (.inr 66), .inl (kb h), .inl s, .inl t]) (rest := []) 36 0 0 0 0 rfl rfl (Nat.le_of_ble_eq_true rfl) rfl (Nat.le_of_ble_eq_true rfl) rfl rfl (Nat.le_of_ble_eq_true rfl) rfl (Nat.le_of_ble_eq_true rfl) rfl (Nat.le_refl _) (Nat.le_refl _) rfl rfl (tg_66 S) ?_
        refine m_opensBook S (kb h) s t R F (by omega) (by omega) c3 c4 (fun y5 p5 S5 => ?_)
        have kp5 : Keep smA h y5 := (p5.1.wide moA_smA)
        show Wp (d + 10) 0 0 M_X12_send 36 [some (.inr (.inr 66)), some (.inl s), some (.inl t), some (.inl (kb h)), none] [] y5 _
        have kB5 := kp5.wide smA_bkB
        have m79 : gv y5 79 (kb h) = gv h 79 (kb h) := kB5.1 79 _ rfl
        have r79 := R.1
        have r80 := R.2.1
        have e210 : gv y5 2 10 = gv h 2 10 := p5.1.1 2 10 rfl
        have eid : ids y5 (kb h) = ids h (kb h) := ids_kp kB5 (fun i => p5.1.1 64 i rfl) _
        refine p_aload 37 rfl rfl rfl ?_
        refine p_callv (le := [some (.inr (.inr 66)), none, none]) (as := [.inr (.inr 66)]) (rest := []) 40 0 0 0 0 rfl rfl (Nat.le_of_ble_eq_true rfl) rfl (Nat.le_of_ble_eq_true rfl) rfl rfl (Nat.le_of_ble_eq_true rfl) rfl (Nat.le_of_ble_eq_true rfl) rfl (Nat.le_refl _) (Nat.le_refl _) rfl rfl (tg_66 S5) ?_
        refine m_takes S5 p5.2.1 (by omega) (by omega) (by omega) (by omega) (M.kp (fun a i z => p5.1.1 a i (decide_eq_false (by omega)))) (fun r6 y6 p6 S6 => ?_)
        have kp6 : Keep smA h y6 := kp5.trans (p6.1.wide tmA_smA)
        show Wp (d + 10) 0 0 M_X12_send 40 [some (.inr (.inr 66)), some (.inl s), some (.inl t), some (.inl (kb h)), none] [.inl r6] y6 _
        have kB6 := kp6.wide smA_bkB
        have q6 : AdM h (kb h) r6 y6 := by have y := p6.2; unfold AdM adOk at y ⊢; rw [e210, eid] at y; exact y
        refine p_if_eq 43 51 rfl rfl rfl (fun c7 => ?_) (fun c7 => ?_)
        · skip
          refine p_const 52 rfl rfl ?_
          refine p_iret rfl rfl ?_
          -- leaf 2: answer [.inl (-1)] h=y6  kp6
          refine K _ _ (no _ (fun y => ?_) kp6 (fun a i e => by rw [p6.1.1 a i (decide_eq_false (by omega)), p5.1.1 a i (decide_eq_false (by omega))])) S6
          rcases q6 with w | w
          · omega
          · exact w.2 y.1.2.2.2
        · skip
          have q6' : adOk h (kb h) ∧ gv y6 66 62 = gv h 2 10 ∧ ∀ i, 0 ≤ i → i < gv h 2 10 → gv y6 109 i = ids h (kb h) i := by rcases q6 with w | w; exact w.2; exact absurd w.1 c7
          obtain ⟨hok, hn, hids⟩ := q6'
          have hn1 := hok.1
          refine p_aload 44 rfl rfl rfl ?_
          refine p_iload 45 rfl rfl rfl ?_
          refine p_callv (le := [some (.inr (.inr 66)), some (.inl s), none, none, none, none, none]) (as := [.inr (.inr 66), .inl s]) (rest := []) 48 0 0 0 0 rfl rfl (Nat.le_of_ble_eq_true rfl) rfl (Nat.le_of_ble_eq_true rfl) rfl rfl (Nat.le_of_ble_eq_true rfl) rfl (Nat.le_of_ble_eq_true rfl) rfl (Nat.le_refl _) (Nat.le_refl _) rfl rfl (tg_66 S6) ?_
          refine m_sends S6 s (R.kp kB6) (by omega) (by omega) (p5.2.kp p6.1 tmA_open) (F.kp kB6) c3 c4 (zhi c4.1 c4.2) hn (by omega) (by omega) (fun r8 y8 p8 S8 => ?_)
          have kp8 : Keep smA h y8 := kp6.trans (p8.1.wide msA_smA)
          show Wp (d + 10) 0 0 M_X12_send 48 [some (.inr (.inr 66)), some (.inl s), some (.inl t), some (.inl (kb h)), none] [.inl r8] y8 _
          have EB : bstF y6 (kb h) s t (zh h t) (fun i => gv y6 109 i) (gv h 2 10) (gv h 2 10).toNat = sB h s t := by
            rw [bstF_congr kB6]; exact bstF_ids hids _ (by omega)
          obtain ⟨k8, ce, er⟩ := p8
          rw [EB] at ce er
          have ok : ∀ i, 0 ≤ i → i ≤ gv h 2 10 → bOk (hstF h s) (plnF h (kb h) s t (zh h t)) (gv h 2 10) (sB h s t) i := fun i i0 i1 => R.bok (gv h 2 10).toNat i (by omega) i1
          refine p_if_ne 51 53 rfl rfl rfl (fun c9 => ?_) (fun c9 => ?_)
          · skip
            refine p_aload 54 rfl rfl rfl ?_
            refine p_const 55 rfl rfl ?_
            refine p_putfi (j := 68) 58 rfl rfl rfl (fun z => absurd z (by decide)) (tg_66 S8) rfl ?_
            refine p_nmh (fun y10 e10 => ?_)
            have S10 : Shape y10 := by rw [e10]; exact S8.svF ff_66_68 _
            have kp10 : Keep smA h y10 := by rw [e10]; exact kp8.sv rfl _
            refine p_const 59 rfl rfl ?_
            refine p_istore (ls' := [some (.inr (.inr 66)), some (.inl s), some (.inl t), some (.inl (kb h)), some (.inl 0)]) 61 rfl rfl (Nat.le_of_ble_eq_true rfl) rfl ?_
            -- leaf 3: loop 61 [some (.inr (.inr 66)), some (.inl s), some (.inl t), some (.inl (kb h)), some (.inl 0)] st=[] h=y10 e10 kp10
            have b0 : (sB h s t 0).1 < 1000 := by by_cases w : (sB h s t 0).1 < 1000; exact w; rw [if_neg w] at er; exact absurd er c9
            have k810 : Keep spaA y8 y10 := by rw [e10]; exact (Keep.rf _ _).sv rfl _
            refine m_sentLoop (g := y10) ok (by omega) (by omega) b0 s t (kb h) ((k810.1 66 62 rfl).trans ((k8.1 66 62 rfl).trans hn)) (fun i i0 i1 => (ce i i0 i1).kp (fun a a0 a1 => k810.1 a i (decide_eq_false (by omega)))) (fun h' P' S' => ?_) (gv h 2 10).toNat 0 [] y10 (by omega) (by omega) (by omega) b0 rfl S10 (Keep.rf _ _) (by rw [e10, sv_eq]; rfl) (fun j w hj => by cases hj)
            exact K _ _ ⟨kp10.trans (P'.1.wide spaA_smA), Or.inr ⟨⟨⟨c2, c3, c4, hok⟩, b0⟩, rfl, P'.2.1, P'.2.2⟩⟩ S'
          · skip
            refine p_const 52 rfl rfl ?_
            refine p_iret rfl rfl ?_
            -- leaf 4: answer [.inl (-1)] h=y8  kp8
            refine K _ _ (no _ (fun y => ?_) kp8 (fun a i e => by rw [k8.1 a i (decide_eq_false (by omega)), p6.1.1 a i (decide_eq_false (by omega)), p5.1.1 a i (decide_eq_false (by omega))])) S8
            rw [if_pos y.2] at er
            omega
      · show Wp (d + 10) 0 0 M_X12_send 24 [some (.inr (.inr 66)), some (.inl s), some (.inl t), some (.inl (kb h)), none] [.inl 0] h _
        refine p_if_ne_f 27 rfl rfl (by decide) ?_
        refine p_const 28 rfl rfl ?_
        refine p_iret rfl rfl ?_
        -- leaf 5: answer [.inl (-1)] h=h 
        exact K _ _ (no _ (fun y => c4 y.1.2.2.1) (Keep.rf _ _) (fun _ _ _ => rfl)) S
    · show Wp (d + 10) 0 0 M_X12_send 17 [some (.inr (.inr 66)), some (.inl s), some (.inl t), some (.inl (kb h)), none] [.inl 0] h _
      refine p_if_eq_t 27 rfl rfl (by decide) ?_
      refine p_const 28 rfl rfl ?_
      refine p_iret rfl rfl ?_
      -- leaf 6: answer [.inl (-1)] h=h 
      exact K _ _ (no _ (fun y => c3 y.1.2.1) (Keep.rf _ _) (fun _ _ _ => rfl)) S
/-! send and sent alike -/
def SentI (h : PH) : Prop := (0 ≤ gv h 2 12 ∧ gv h 2 12 ≤ 12) ∧ gv h 66 68 = gv h 2 12 ∧ ∀ i, 0 ≤ i → i < gv h 2 12 → gv h 114 i = gv h 65 i
theorem SentI.kp {h h' : PH} (M : SentI h) (e : ∀ a i, (a = 2 ∧ i = 12) ∨ (a = 66 ∧ i = 68) ∨ a = 114 ∨ a = 65 → gv h' a i = gv h a i) : SentI h' := by
  unfold SentI
  rw [e 2 12 (by omega), e 66 68 (by omega)]
  exact ⟨M.1, M.2.1, fun i i0 i1 => by rw [e 114 i (by omega), e 65 i (by omega)]; exact M.2.2 i i0 i1⟩
theorem sB_kp {h h' : PH} (K : Keep bkB h h') (e : ∀ i, gv h' 64 i = gv h 64 i) (e10 : gv h' 2 10 = gv h 2 10) (s t : Int) : sB h' s t = sB h s t := by
  unfold sB
  rw [bstF_congr K, kb_congr K, zh_congr K, ids_kp K e, e10]
theorem sOk_kp {h h' : PH} (K : Keep bkB h h') (e : ∀ i, gv h' 64 i = gv h 64 i) (e10 : gv h' 2 10 = gv h 2 10) (s t : Int) : sOk h' s t ↔ sOk h s t := by
  unfold sOk argS adOk
  rw [sB_kp K e e10, kb_congr K, ids_kp K e, e10]
theorem send_same {h h1 h2 : PH} {s t r r' : Int} (A : AI h) (M : MI h) (T : SentI h) (k1 : Keep sxA h h1) (x : SendX h s t r h1) (k2 : Keep smA h1 h2) (m : SendM h1 s t r' h2) : r = r' ∧ SentI h2 := by
  have kB := k1.wide sxA_bkB
  have e64 : ∀ i, gv h1 64 i = gv h 64 i := fun i => k1.1 64 i rfl
  have e10 : gv h1 2 10 = gv h 2 10 := k1.1 2 10 rfl
  obtain ⟨t1, t2, t3⟩ := T
  have g68 : gv h1 66 68 = gv h 66 68 := k1.1 66 68 rfl
  have f12 : gv h2 2 12 = gv h1 2 12 := k2.1 2 12 rfl
  have f65 : ∀ i, gv h2 65 i = gv h1 65 i := fun i => k2.1 65 i rfl
  have g114 : ∀ i, gv h1 114 i = gv h 114 i := fun i => k1.1 114 i rfl
  rcases x with ⟨x1, x2, x3, x4⟩ | ⟨x1, x2, x3, x4⟩ <;> rcases m with ⟨m1, m2, m3, m4⟩ | ⟨m1, m2, m3, m4⟩
  · refine ⟨by omega, ⟨by omega, by omega⟩, by omega, fun i i0 i1 => ?_⟩
    rw [m4, f65, x4, g114]; exact t3 i i0 (by omega)
  · exact absurd ((sOk_kp kB e64 e10 s t).1 m1) x1
  · exact absurd ((sOk_kp kB e64 e10 s t).2 x1) m1
  · rw [sB_kp kB e64 e10] at m2
    have sh : sH h1 s t = sH h s t := by unfold sH; rw [sB_kp kB e64 e10, e10]
    rw [sh] at m4
    have kb0 := A.kb
    obtain ⟨⟨kb1, _, _, hok⟩, b0⟩ := id x1
    have hn1 := hok.1
    have mi := M.1
    have R : BkR h (xb h) (kb h) := by rcases kb0 with w | w; exact absurd w.1 kb1; exact w.2.2.2
    have ok : ∀ i, 0 ≤ i → i ≤ gv h 2 10 → bOk (hstF h s) (plnF h (kb h) s t (zh h t)) (gv h 2 10) (sB h s t) i := fun i i0 i1 => R.bok (gv h 2 10).toNat i (by omega) i1
    have len := pth_len ok (gv h 2 10).toNat 0 (by omega) (Int.le_refl 0) (by omega) b0
    have b12 : 0 ≤ (sB h s t 0).1 ∧ (sB h s t 0).1 ≤ 12 := by rcases ok 0 (Int.le_refl 0) (by omega) with w | ⟨w, _⟩ <;> omega
    refine ⟨by omega, ⟨by omega, by omega⟩, by omega, fun i i0 i1 => ?_⟩
    have hi : i.toNat < (sH h s t).length := by
      have : ((sH h s t).length : Int) = (sB h s t 0).1 := len
      omega
    have y1 := x4 i.toNat _ (List.getElem?_eq_getElem hi)
    have y2 := m4 i.toNat _ (List.getElem?_eq_getElem hi)
    rw [Int.toNat_of_nonneg i0] at y1 y2
    rw [y2, f65, y1]
def SentR (h : PH) (k r : Int) : Prop := r = if 0 ≤ k ∧ k < gv h 2 12 then gv h 65 k else -1
theorem x_sent {d : Nat} {h : PH} {q : PQ} (S : Shape h) (T : SentI h) (k : Int) (K : ∀ r, SentR h k r → q (some (.inl r)) h) : Wp (d + 1) 0 0 M_X11_sent 0 [some (.inr (.inr 2)), some (.inl k)] [] h q := by
  obtain ⟨t1, t2, t3⟩ := T
  unfold SentR at K
  refine p_iload 1 rfl rfl rfl ?_
  refine p_if_lt 4 30 rfl rfl rfl (fun c1 => ?_) (fun c1 => ?_)
  · skip
    refine p_const 31 rfl rfl ?_
    refine p_iret rfl rfl ?_
    -- leaf 1: answer [.inl (-1)] h=h 
    first | (exfalso; omega) | exact K _ (by rw [if_neg (by omega)]) | exact K _ (by rw [if_pos (by omega)])
  · skip
    refine p_iload 5 rfl rfl rfl ?_
    refine p_aload 6 rfl rfl rfl ?_
    refine p_getfi (j := 12) (z := gv h 2 12) 9 rfl rfl rfl (tg_2 S) rfl rfl ?_
    refine p_ic_ge 12 30 rfl rfl rfl (fun c2 => ?_) (fun c2 => ?_)
    · skip
      refine p_const 31 rfl rfl ?_
      refine p_iret rfl rfl ?_
      -- leaf 2: answer [.inl (-1)] h=h 
      first | (exfalso; omega) | exact K _ (by rw [if_neg (by omega)]) | exact K _ (by rw [if_pos (by omega)])
    · skip
      refine p_iload 13 rfl rfl rfl ?_
      refine p_aload 14 rfl rfl rfl ?_
      refine p_getfr (j := 11) (z := 65) 17 rfl rfl rfl (tg_2 S) rfl (fi_2_11 S) ?_
      refine p_alen (w := 12) 18 rfl rfl (by rw [(tg_65 S)]; decide) (ln_65 S) ?_
      refine p_ic_ge 21 30 rfl rfl rfl (fun c3 => ?_) (fun c3 => ?_)
      · skip
        refine p_const 31 rfl rfl ?_
        refine p_iret rfl rfl ?_
        -- leaf 3: answer [.inl (-1)] h=h 
        first | (exfalso; omega) | exact K _ (by rw [if_neg (by omega)]) | exact K _ (by rw [if_pos (by omega)])
      · skip
        refine p_aload 22 rfl rfl rfl ?_
        refine p_getfr (j := 11) (z := 65) 25 rfl rfl rfl (tg_2 S) rfl (fi_2_11 S) ?_
        refine p_iload 26 rfl rfl rfl ?_
        refine p_iald (w := 12) (z := gv h 65 k) 27 rfl rfl (tg_65 S) (ln_65 S) (by omega) (by omega) rfl ?_
        refine p_goto 31 rfl rfl ?_
        refine p_iret rfl rfl ?_
        -- leaf 4: answer [.inl (gv h 65 k)] h=h 
        first | (exfalso; omega) | exact K _ (by rw [if_neg (by omega)]) | exact K _ (by rw [if_pos (by omega)])
theorem m_sent {d : Nat} {h : PH} {q : PQ} (S : Shape h) (T : SentI h) (k : Int) (K : ∀ r, SentR h k r → q (some (.inl r)) h) : Wp (d + 1) 0 0 M_X12_sent 0 [some (.inr (.inr 66)), some (.inl k)] [] h q := by
  obtain ⟨t1, t2, t3⟩ := T
  unfold SentR at K
  refine p_iload 1 rfl rfl rfl ?_
  refine p_if_lt 4 21 rfl rfl rfl (fun c1 => ?_) (fun c1 => ?_)
  · skip
    refine p_const 22 rfl rfl ?_
    refine p_iret rfl rfl ?_
    -- leaf 1: answer [.inl (-1)] h=h 
    first | (exfalso; omega) | exact K _ (by rw [if_neg (by omega)]) | exact K _ (by rw [if_pos (by omega)]; exact t3 k (by omega) (by omega))
  · skip
    refine p_iload 5 rfl rfl rfl ?_
    refine p_aload 6 rfl rfl rfl ?_
    refine p_getfi (j := 68) (z := gv h 66 68) 9 rfl rfl rfl (tg_66 S) rfl rfl ?_
    refine p_ic_ge 12 21 rfl rfl rfl (fun c2 => ?_) (fun c2 => ?_)
    · skip
      refine p_const 22 rfl rfl ?_
      refine p_iret rfl rfl ?_
      -- leaf 2: answer [.inl (-1)] h=h 
      first | (exfalso; omega) | exact K _ (by rw [if_neg (by omega)]) | exact K _ (by rw [if_pos (by omega)]; exact t3 k (by omega) (by omega))
    · skip
      refine p_aload 13 rfl rfl rfl ?_
      refine p_getfr (j := 69) (z := 114) 16 rfl rfl rfl (tg_66 S) rfl (fi_66_69 S) ?_
      refine p_iload 17 rfl rfl rfl ?_
      refine p_iald (w := 12) (z := gv h 114 k) 18 rfl rfl (tg_114 S) (ln_114 S) (by omega) (by omega) rfl ?_
      refine p_goto 22 rfl rfl ?_
      refine p_iret rfl rfl ?_
      -- leaf 3: answer [.inl (gv h 114 k)] h=h 
      first | (exfalso; omega) | exact K _ (by rw [if_neg (by omega)]) | exact K _ (by rw [if_pos (by omega)]; exact t3 k (by omega) (by omega))

