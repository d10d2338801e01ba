/-! TRIES: the model's planning, one part -/
theorem letters.lt {v : Int} (g : letters v) : v < 1048576 := by have := rl_pos g.1; omega
theorem app_big {x y : Int} (gx : letters x) (gy : letters y) (h : 4 < rl x + rl y) : 1048576 ≤ app x y := by
  have bx := rl_in x
  have b := rl_in y
  have lx := gx.1
  have ly := gy.1
  have px := (rl_pos lx).1
  have py := (rl_pos ly).1
  have hx : ∀ n : Int, rl x = n → (n = 1 → 1 ≤ x) ∧ (n = 2 → 32 ≤ x) ∧ (n = 3 → 1024 ≤ x) ∧ (n = 4 → 32768 ≤ x) := by
    intro n hn
    unfold rl at hn
    refine ⟨?_, ?_, ?_, ?_⟩ <;> intro e <;> subst e <;> (repeat' split at hn) <;> omega
  have hx := hx _ rfl
  unfold app
  rcases (show rl y = 1 ∨ rl y = 2 ∨ rl y = 3 ∨ rl y = 4 by omega) with r | r | r | r <;> rw [r] at h ⊢
  · show 1048576 ≤ x * 32 + y; omega
  · show 1048576 ≤ x * 1024 + y; omega
  · show 1048576 ≤ x * 32768 + y; omega
  · show 1048576 ≤ x * 1048576 + y; omega
def bhF (x c : Int) : Int := if app x c < 1048576 then app x c else -1
theorem bhF_le {x y : Int} (gx : x = 0 ∨ letters x) (gy : letters y) (h : rl x + rl y ≤ 4) : bhF x y = app x y := if_pos (app_letters gx gy h).1.lt
theorem bhF_big {x y : Int} (gx : letters x) (gy : letters y) (h : 4 < rl x + rl y) : bhF x y = -1 := if_neg (by have := app_big gx gy h; omega)
theorem m_behind {d : Nat} {h : PH} {q : PQ} (S : Shape h) (x j : Int) {k c : Int} (hb : gv h 66 49 = k) (k0 : 0 ≤ k) (k1 : k ≤ 200) (j0 : 0 ≤ j) (j1 : j < 40) (x0 : 0 ≤ x) (x1 : x < 1048576) (hc : cd h k j = c) (g : letters c) (K : q (some (.inl (bhF x c))) h) :
    Wp (d + 1) 0 0 M_X12_behind 0 [some (.inr (.inr 66)), some (.inl x), some (.inl j), none, none, none, none, none] [] h q := by
  have rp := rl_pos g.1
  have hc' : gv h 81 (40 * k + j) = c := hc
  have ra : rl c = if c < 32 then 1 else if c < 1024 then 2 else if c < 32768 then 3 else 4 := by
    unfold rl; (repeat' split) <;> omega
  have lo : ∀ m w : Int, rl c = m → (2 : Int) ^ (5 * m).toNat = w → bhF x c = if x * w + c < 1048576 then x * w + c else -1 := fun m w hm hw => by unfold bhF app; rw [hm, hw]
  refine p_aload 1 rfl rfl rfl ?_
  refine p_getfr (j := 22) (z := 81) 4 rfl rfl rfl (tg_66 S) rfl (fi_66_22 S) ?_
  refine p_const 6 rfl rfl ?_
  refine p_aload 7 rfl rfl rfl ?_
  refine p_getfi (j := 49) (z := k) 10 rfl rfl rfl (tg_66 S) rfl hb ?_
  refine p_imul (z := 40 * k) 11 rfl rfl (w32_id ⟨(by omega), (by omega)⟩) ?_
  refine p_iload 12 rfl rfl rfl ?_
  refine p_iadd (z := (40 * k) + j) 13 rfl rfl (w32_id ⟨(by omega), (by omega)⟩) ?_
  refine p_iald (w := 8040) (z := c) 14 rfl rfl (tg_81 S) (ln_81 S) (by omega) (by omega) hc' ?_
  refine p_istore (ls' := [some (.inr (.inr 66)), some (.inl x), some (.inl j), some (.inl c), none, none, none, none]) 15 rfl rfl (Nat.le_of_ble_eq_true rfl) rfl ?_
  refine p_iload 16 rfl rfl rfl ?_
  refine p_const 18 rfl rfl ?_
  refine p_ic_ge 21 27 rfl rfl rfl (fun c1 => ?_) (fun c1 => ?_)
  · skip
    refine p_iload 28 rfl rfl rfl ?_
    refine p_const 31 rfl rfl ?_
    refine p_ic_ge 34 40 rfl rfl rfl (fun c2 => ?_) (fun c2 => ?_)
    · skip
      refine p_iload 41 rfl rfl rfl ?_
      refine p_const 44 rfl rfl ?_
      refine p_ic_ge 47 53 rfl rfl rfl (fun c3 => ?_) (fun c3 => ?_)
      · skip
        refine p_lconst 56 rfl rfl ?_
        refine p_lstore (ls' := [some (.inr (.inr 66)), some (.inl x), some (.inl j), some (.inl c), some (.inr (.inl 1048576)), none, none, none]) 58 rfl rfl (Nat.le_of_ble_eq_true rfl) rfl ?_
        refine p_iload 59 rfl rfl rfl ?_
        refine p_i2l 60 rfl rfl ?_
        refine p_lload 62 rfl rfl rfl ?_
        refine p_lmul (z := x * 1048576) 63 rfl rfl (w64_id ⟨(by omega), (by omega)⟩) ?_
        refine p_iload 64 rfl rfl rfl ?_
        refine p_i2l 65 rfl rfl ?_
        refine p_ladd (z := (x * 1048576) + c) 66 rfl rfl (w64_id ⟨(by omega), (by omega)⟩) ?_
        refine p_lstore (ls' := [some (.inr (.inr 66)), some (.inl x), some (.inl j), some (.inl c), some (.inr (.inl 1048576)), none, some (.inr (.inl ((x * 1048576) + c))), none]) 68 rfl rfl (Nat.le_of_ble_eq_true rfl) rfl ?_
        refine p_lload 70 rfl rfl rfl ?_
        refine p_lconst 73 rfl rfl ?_
        refine p_lc_ge 74 77 83 rfl rfl rfl rfl rfl (fun c4 => ?_) (fun c4 => ?_)
        · skip
          refine p_const 84 rfl rfl ?_
          refine p_iret rfl rfl ?_
          -- leaf 1: answer [.inl (-1)] h=h 
          rw [lo 4 1048576 (by rw [ra]; (repeat' split) <;> omega) rfl, if_neg (by omega)] at K; exact K
        · skip
          refine p_lload 79 rfl rfl rfl ?_
          refine p_l2i (z := (x * 1048576) + c) 80 rfl rfl (w32_id ⟨(by omega), (by omega)⟩) ?_
          refine p_goto 84 rfl rfl ?_
          refine p_iret rfl rfl ?_
          -- leaf 2: answer [.inl ((x * 1048576) + c)] h=h 
          rw [lo 4 1048576 (by rw [ra]; (repeat' split) <;> omega) rfl, if_pos (by omega)] at K; exact K
      · skip
        refine p_lconst 50 rfl rfl ?_
        refine p_goto 56 rfl rfl ?_
        refine p_lstore (ls' := [some (.inr (.inr 66)), some (.inl x), some (.inl j), some (.inl c), some (.inr (.inl 32768)), none, none, none]) 58 rfl rfl (Nat.le_of_ble_eq_true rfl) rfl ?_
        refine p_iload 59 rfl rfl rfl ?_
        refine p_i2l 60 rfl rfl ?_
        refine p_lload 62 rfl rfl rfl ?_
        refine p_lmul (z := x * 32768) 63 rfl rfl (w64_id ⟨(by omega), (by omega)⟩) ?_
        refine p_iload 64 rfl rfl rfl ?_
        refine p_i2l 65 rfl rfl ?_
        refine p_ladd (z := (x * 32768) + c) 66 rfl rfl (w64_id ⟨(by omega), (by omega)⟩) ?_
        refine p_lstore (ls' := [some (.inr (.inr 66)), some (.inl x), some (.inl j), some (.inl c), some (.inr (.inl 32768)), none, some (.inr (.inl ((x * 32768) + c))), none]) 68 rfl rfl (Nat.le_of_ble_eq_true rfl) rfl ?_
        refine p_lload 70 rfl rfl rfl ?_
        refine p_lconst 73 rfl rfl ?_
        refine p_lc_ge 74 77 83 rfl rfl rfl rfl rfl (fun c5 => ?_) (fun c5 => ?_)
        · skip
          refine p_const 84 rfl rfl ?_
          refine p_iret rfl rfl ?_
          -- leaf 3: answer [.inl (-1)] h=h 
          rw [lo 3 32768 (by rw [ra]; (repeat' split) <;> omega) rfl, if_neg (by omega)] at K; exact K
        · skip
          refine p_lload 79 rfl rfl rfl ?_
          refine p_l2i (z := (x * 32768) + c) 80 rfl rfl (w32_id ⟨(by omega), (by omega)⟩) ?_
          refine p_goto 84 rfl rfl ?_
          refine p_iret rfl rfl ?_
          -- leaf 4: answer [.inl ((x * 32768) + c)] h=h 
          rw [lo 3 32768 (by rw [ra]; (repeat' split) <;> omega) rfl, if_pos (by omega)] at K; exact K
    · skip
      refine p_lconst 37 rfl rfl ?_
      refine p_goto 56 rfl rfl ?_
      refine p_lstore (ls' := [some (.inr (.inr 66)), some (.inl x), some (.inl j), some (.inl c), some (.inr (.inl 1024)), none, none, none]) 58 rfl rfl (Nat.le_of_ble_eq_true rfl) rfl ?_
      refine p_iload 59 rfl rfl rfl ?_
      refine p_i2l 60 rfl rfl ?_
      refine p_lload 62 rfl rfl rfl ?_
      refine p_lmul (z := x * 1024) 63 rfl rfl (w64_id ⟨(by omega), (by omega)⟩) ?_
      refine p_iload 64 rfl rfl rfl ?_
      refine p_i2l 65 rfl rfl ?_
      refine p_ladd (z := (x * 1024) + c) 66 rfl rfl (w64_id ⟨(by omega), (by omega)⟩) ?_
      refine p_lstore (ls' := [some (.inr (.inr 66)), some (.inl x), some (.inl j), some (.inl c), some (.inr (.inl 1024)), none, some (.inr (.inl ((x * 1024) + c))), none]) 68 rfl rfl (Nat.le_of_ble_eq_true rfl) rfl ?_
      refine p_lload 70 rfl rfl rfl ?_
      refine p_lconst 73 rfl rfl ?_
      refine p_lc_ge 74 77 83 rfl rfl rfl rfl rfl (fun c6 => ?_) (fun c6 => ?_)
      · skip
        refine p_const 84 rfl rfl ?_
        refine p_iret rfl rfl ?_
        -- leaf 5: answer [.inl (-1)] h=h 
        rw [lo 2 1024 (by rw [ra]; (repeat' split) <;> omega) rfl, if_neg (by omega)] at K; exact K
      · skip
        refine p_lload 79 rfl rfl rfl ?_
        refine p_l2i (z := (x * 1024) + c) 80 rfl rfl (w32_id ⟨(by omega), (by omega)⟩) ?_
        refine p_goto 84 rfl rfl ?_
        refine p_iret rfl rfl ?_
        -- leaf 6: answer [.inl ((x * 1024) + c)] h=h 
        rw [lo 2 1024 (by rw [ra]; (repeat' split) <;> omega) rfl, if_pos (by omega)] at K; exact K
  · skip
    refine p_lconst 24 rfl rfl ?_
    refine p_goto 56 rfl rfl ?_
    refine p_lstore (ls' := [some (.inr (.inr 66)), some (.inl x), some (.inl j), some (.inl c), some (.inr (.inl 32)), none, none, none]) 58 rfl rfl (Nat.le_of_ble_eq_true rfl) rfl ?_
    refine p_iload 59 rfl rfl rfl ?_
    refine p_i2l 60 rfl rfl ?_
    refine p_lload 62 rfl rfl rfl ?_
    refine p_lmul (z := x * 32) 63 rfl rfl (w64_id ⟨(by omega), (by omega)⟩) ?_
    refine p_iload 64 rfl rfl rfl ?_
    refine p_i2l 65 rfl rfl ?_
    refine p_ladd (z := (x * 32) + c) 66 rfl rfl (w64_id ⟨(by omega), (by omega)⟩) ?_
    refine p_lstore (ls' := [some (.inr (.inr 66)), some (.inl x), some (.inl j), some (.inl c), some (.inr (.inl 32)), none, some (.inr (.inl ((x * 32) + c))), none]) 68 rfl rfl (Nat.le_of_ble_eq_true rfl) rfl ?_
    refine p_lload 70 rfl rfl rfl ?_
    refine p_lconst 73 rfl rfl ?_
    refine p_lc_ge 74 77 83 rfl rfl rfl rfl rfl (fun c7 => ?_) (fun c7 => ?_)
    · skip
      refine p_const 84 rfl rfl ?_
      refine p_iret rfl rfl ?_
      -- leaf 7: answer [.inl (-1)] h=h 
      rw [lo 1 32 (by rw [ra]; (repeat' split) <;> omega) rfl, if_neg (by omega)] at K; exact K
    · skip
      refine p_lload 79 rfl rfl rfl ?_
      refine p_l2i (z := (x * 32) + c) 80 rfl rfl (w32_id ⟨(by omega), (by omega)⟩) ?_
      refine p_goto 84 rfl rfl ?_
      refine p_iret rfl rfl ?_
      -- leaf 8: answer [.inl ((x * 32) + c)] h=h 
      rw [lo 1 32 (by rw [ra]; (repeat' split) <;> omega) rfl, if_pos (by omega)] at K; exact K
/-- what the planning from name f on stands on -/
def PD (h : PH) (k s t z n f : Int) : Prop := (0 ≤ k ∧ k ≤ 200) ∧ (0 ≤ gv h 79 k ∧ gv h 79 k ≤ 40) ∧ tvs h k s t z ∧ (∀ j, 0 ≤ j → j < gv h 79 k → letters (cd h k j)) ∧ Open h k s t z ∧ FI h ∧ (0 ≤ s ∧ s < 10) ∧ (gv h 66 62 = n ∧ n ≤ 12) ∧ (0 ≤ f ∧ f < n) ∧ ∀ j, f < j → j ≤ n → gv h 110 j = -1 ∨ ((0 ≤ gv h 110 j ∧ gv h 110 j ≤ 12) ∧ 0 ≤ gv h 111 j ∧ gv h 111 j ≤ 48)
def mtA (f a i : Int) : Bool := decide ((a = 66 ∧ (i = 38 ∨ i = 52 ∨ i = 56)) ∨ (92 ≤ a ∧ a ≤ 93) ∨ (102 ≤ a ∧ a ≤ 104) ∨ ((110 ≤ a ∧ a ≤ 113) ∧ i = f))
theorem mtA_bkB (f : Int) : ∀ a i, bkB a i = false → mtA f a i = false := fun a i => dw (by omega)
theorem mtA_mA (f : Int) : ∀ a i, mA a i = false → mtA f a i = false := fun a i => dw (by omega)
theorem spA_mtA (f : Int) : ∀ a i, mtA f a i = false → spA a i = false := fun a i z => hoA_w a i (hoA_f (fun y => of_decide_eq_false z (by omega)))
theorem rdA_mtA (f : Int) : ∀ a i, mtA f a i = false → rdA a i = false := fun a i => dw (by omega)
theorem mtA_open (f : Int) : ∀ a i, bkB a i = false ∨ (a = 66 ∧ i = 49) ∨ a = 100 ∨ a = 101 → mtA f a i = false := fun a i z => decide_eq_false (fun y => by
  rcases z with z | z
  · exact of_decide_eq_false z (by omega)
  · omega)
theorem mtA_no {f a i : Int} (h : ¬ ((a = 66 ∧ (i = 38 ∨ i = 52 ∨ i = 56)) ∨ (92 ≤ a ∧ a ≤ 93) ∨ (102 ≤ a ∧ a ≤ 104) ∨ ((110 ≤ a ∧ a ≤ 113) ∧ i = f))) : mtA f a i = false := decide_eq_false h
theorem mtA_yes {f a i : Int} (h : (110 ≤ a ∧ a ≤ 113) ∧ i = f) : mtA f a i = true := decide_eq_true (Or.inr (Or.inr (Or.inr h)))
/-- the model's best from name f on is u -/
def PMc (h : PH) (f : Int) (u : Q4t) : Prop := (u.1 = 1000 ∧ gv h 110 f = -1) ∨ ((0 ≤ u.1 ∧ u.1 < 1000) ∧ gv h 110 f = u.1 ∧ gv h 111 f = u.2.1 ∧ gv h 112 f = u.2.2.1 ∧ gv h 113 f = u.2.2.2)
theorem PMc.kp {h h' : PH} {f : Int} {u : Q4t} (P : PMc h f u) (e : ∀ a, 110 ≤ a → a ≤ 113 → gv h' a f = gv h a f) : PMc h' f u := by
  unfold PMc
  rw [e 110 (by decide) (by decide), e 111 (by decide) (by decide), e 112 (by decide) (by decide), e 113 (by decide) (by decide)]
  exact P
noncomputable abbrev SM1 (h : PH) (k s t z : Int) : Q4t → Int × Int × Int → Q4t := stpF (fun j => if gv h 110 j = -1 then 1000 else gv h 110 j) (fun j => gv h 111 j) (hstF h s) (plnF h k s t z)
theorem m_tries {d : Nat} {h : PH} {q : PQ} {k s t z n f : Int} (B : PD h k s t z n f) (j row : Int) {u : Q4t} {h1 : PH} (S1 : Shape h1) (k1 : Keep (mtA f) h h1) (P : PMc h1 f u) (j0 : f < j) (j1 : j ≤ n) (g : letters row)
    (K : ∀ h', (Keep (mtA f) h h' ∧ PMc h' f (SM1 h k s t z u (j, row, rl row))) → Shape h' → q none h') :
    Wp (d + 5) 0 0 M_X12_tries 0 [some (.inr (.inr 66)), some (.inl s), some (.inl f), some (.inl j), some (.inl row), none, none, none, none] [] h1 q := by
  obtain ⟨⟨k0, k2⟩, ⟨m0, m40⟩, tv01, cds, O, F, hs, ⟨b1, b2⟩, ⟨f0, f1⟩, b6⟩ := B
  have rb := rl_in row
  have rp := rl_pos g.1
  have kB := k1.wide (mtA_bkB f)
  have cj := b6 j j0 j1
  have e110 : gv h1 110 j = gv h 110 j := k1.1 110 j (mtA_no (by omega))
  have e111 : gv h1 111 j = gv h 111 j := k1.1 111 j (mtA_no (by omega))
  have F1 := F.kp kB
  have hB : ∀ s, 0 ≤ s → s < 10 → 0 ≤ gv h1 86 s ∧ gv h1 86 s < 67108864 ∧ 0 ≤ gv h1 87 s ∧ gv h1 87 s ≤ 3 := fun s s0 s1 => by
    have := F1.lk s s0 s1; have := F1.rp s s0 s1; omega
  have e86 : gv h1 86 s = gv h 86 s := kB.1 86 s rfl
  have e87 : gv h1 87 s = gv h 87 s := kB.1 87 s rfl
  have no : ∀ h', ¬ ((if gv h 110 j = -1 then 1000 else gv h 110 j) < 1000 ∧ hstF h s row ≠ -1 ∧ btr u ((if gv h 110 j = -1 then 1000 else gv h 110 j) + 1) (gv h 111 j + rl row) (hstF h s row) ∧ plnF h k s t z row) → Keep (mtA f) h1 h' → (∀ a, 110 ≤ a → a ≤ 113 → gv h' a f = gv h1 a f) → Shape h' → q none h' := by
    intro h' nn k' e' S'
    refine K h' ⟨k1.trans k', ?_⟩ S'
    rw [show SM1 h k s t z u (j, row, rl row) = u from stpF_neg nn]
    exact P.kp e'
  have J3 : ∀ (w : Int) (h2 : PH), w = hstF h s row → gv h 110 j ≠ -1 → w ≠ -1 → btr u (gv h 110 j + 1) (gv h 111 j + rl row) w → Keep (mtA f) h1 h2 → (∀ a, 110 ≤ a → a ≤ 113 → gv h2 a f = gv h1 a f) → Shape h2 →
      Wp (d + 5) 0 0 M_X12_tries 162 [some (.inr (.inr 66)), some (.inl s), some (.inl f), some (.inl j), some (.inl row), some (.inl (rl row)), some (.inl (1 + gv h 110 j)), some (.inl (rl row + gv h 111 j)), some (.inl w)] [] h2 q := by
    intro w h2 hw nj wn bt kk e2 S2
    have ej : (if gv h 110 j = -1 then 1000 else gv h 110 j) = gv h 110 j := if_neg nj
    rw [ej] at no
    have k2' := k1.trans kk
    have kkB := k2'.wide (mtA_bkB f)
    have n79 := kkB.1 79 k rfl
    refine p_aload 163 rfl rfl rfl ?_
    refine p_iload 165 rfl rfl rfl ?_
    refine p_callv (le := [some (.inr (.inr 66)), some (.inl row)]) (as := [.inr (.inr 66), .inl row]) (rest := []) 168 0 0 0 0 rfl rfl (Nat.le_of_ble_eq_true rfl) rfl (Nat.le_of_ble_eq_true rfl) rfl rfl (Nat.le_of_ble_eq_true rfl) rfl (Nat.le_of_ble_eq_true rfl) rfl (Nat.le_refl _) (Nat.le_refl _) rfl rfl (tg_66 S2) ?_
    refine m_isPlain S2 row g (O.kp k2' (mtA_open f)) k0 k2 (by omega) (by omega) (tv01.kp kkB) (fun r1 y1 p1 S1 => ?_)
    show Wp (d + 5) 0 0 M_X12_tries 168 [some (.inr (.inr 66)), some (.inl s), some (.inl f), some (.inl j), some (.inl row), some (.inl (rl row)), some (.inl (1 + gv h 110 j)), some (.inl (rl row + gv h 111 j)), some (.inl w)] [.inl r1] y1 _
    refine p_if_ne 171 172 rfl rfl rfl (fun c2 => ?_) (fun c2 => ?_)
    · skip
      refine p_aload 173 rfl rfl rfl ?_
      refine p_getfr (j := 64) (z := 110) 176 rfl rfl rfl (tg_66 S1) rfl (fi_66_64 S1) ?_
      refine p_iload 177 rfl rfl rfl ?_
      refine p_iload 179 rfl rfl rfl ?_
      refine p_iast (w := 13) 180 rfl rfl (by decide) (tg_110 S1) (ln_110 S1) (by omega) (by omega) ?_
      refine p_nmh (fun y3 e3 => ?_)
      have S3 : Shape y3 := by rw [e3]; exact S1.svA fa_110 _ _
      refine p_aload 181 rfl rfl rfl ?_
      refine p_getfr (j := 65) (z := 111) 184 rfl rfl rfl (tg_66 S3) rfl (fi_66_65 S3) ?_
      refine p_iload 185 rfl rfl rfl ?_
      refine p_iload 187 rfl rfl rfl ?_
      refine p_iast (w := 13) 188 rfl rfl (by decide) (tg_111 S3) (ln_111 S3) (by omega) (by omega) ?_
      refine p_nmh (fun y4 e4 => ?_)
      have S4 : Shape y4 := by rw [e4]; exact S3.svA fa_111 _ _
      refine p_aload 189 rfl rfl rfl ?_
      refine p_getfr (j := 66) (z := 112) 192 rfl rfl rfl (tg_66 S4) rfl (fi_66_66 S4) ?_
      refine p_iload 193 rfl rfl rfl ?_
      refine p_iload 195 rfl rfl rfl ?_
      refine p_iast (w := 13) 196 rfl rfl (by decide) (tg_112 S4) (ln_112 S4) (by omega) (by omega) ?_
      refine p_nmh (fun y5 e5 => ?_)
      have S5 : Shape y5 := by rw [e5]; exact S4.svA fa_112 _ _
      refine p_aload 197 rfl rfl rfl ?_
      refine p_getfr (j := 67) (z := 113) 200 rfl rfl rfl (tg_66 S5) rfl (fi_66_67 S5) ?_
      refine p_iload 201 rfl rfl rfl ?_
      refine p_iload 202 rfl rfl rfl ?_
      refine p_iast (w := 13) 203 rfl rfl (by decide) (tg_113 S5) (ln_113 S5) (by omega) (by omega) ?_
      refine p_nmh (fun y6 e6 => ?_)
      have S6 : Shape y6 := by rw [e6]; exact S5.svA fa_113 _ _
      refine p_ret rfl rfl ?_
      -- leaf 1: answer [] h=y6 e6,e5,e4,e3
      have pl : plnF h k s t z row := by
        rcases p1.2 with ⟨_, l, y, _⟩ | y
        · rw [Ws_congr kkB] at y; exact ⟨l, y⟩
        · exact absurd y.1 c2
      refine K _ ⟨?_, ?_⟩ S6
      · rw [e6, e5, e4, e3]; exact ((((k2'.trans (p1.1.wide (rdA_mtA f))).sv (mtA_yes (by omega)) _).sv (mtA_yes (by omega)) _).sv (mtA_yes (by omega)) _).sv (mtA_yes (by omega)) _
      · rw [show SM1 h k s t z u (j, row, rl row) = (gv h 110 j + 1, gv h 111 j + rl row, hstF h s row, j) from
          (stpF_pos ⟨by show (if gv h 110 j = -1 then 1000 else gv h 110 j) < 1000; rw [ej]; omega, by show hstF h s row ≠ -1; rw [← hw]; exact wn, by show btr u ((if gv h 110 j = -1 then 1000 else gv h 110 j) + 1) (gv h 111 j + rl row) (hstF h s row); rw [ej, ← hw]; exact bt, pl⟩).trans (by show ((if gv h 110 j = -1 then 1000 else gv h 110 j) + 1, _, _, _) = _; rw [ej])]
        refine Or.inr ⟨⟨by show 0 ≤ gv h 110 j + 1; omega, by show gv h 110 j + 1 < 1000; omega⟩, ?_, ?_, ?_, ?_⟩
        · rw [e6, e5, e4, e3, sv_ne (by decide), sv_ne (by decide), sv_ne (by decide), sv_eq]; exact Int.add_comm _ _
        · rw [e6, e5, e4, e3, sv_ne (by decide), sv_ne (by decide), sv_eq]; exact Int.add_comm _ _
        · rw [e6, e5, e4, e3, sv_ne (by decide), sv_eq]; exact hw
        · rw [e6, e5, e4, e3, sv_eq]
    · skip
      refine p_ret rfl rfl ?_
      -- leaf 2: answer [] h=y1 
      refine no _ (fun y => ?_) (kk.trans (p1.1.wide (rdA_mtA f))) (fun a a0 a1 => (p1.1.1 a f (decide_eq_false (by omega))).trans (e2 a a0 a1)) S1
      rcases p1.2 with ⟨y1, _⟩ | ⟨_, y1⟩
      · omega
      · rw [Ws_congr kkB] at y1; exact y1 y.2.2.2
  have J2 : gv h 110 j ≠ -1 → (gv h1 110 f = -1 ∨ gv h 110 j + 1 < gv h1 110 f ∨ (gv h 110 j + 1 = gv h1 110 f ∧ rl row + gv h 111 j ≤ gv h1 111 f)) → Wp (d + 5) 0 0 M_X12_tries 114 [some (.inr (.inr 66)), some (.inl s), some (.inl f), some (.inl j), some (.inl row), some (.inl (rl row)), some (.inl (1 + gv h 110 j)), some (.inl (rl row + gv h 111 j)), none] [] h1 q := by
    intro nj nw
    have ej : (if gv h 110 j = -1 then 1000 else gv h 110 j) = gv h 110 j := if_neg nj
    rw [ej] at no
    have B := hB
    have bt : ∀ r : Int, (gv h 110 j + 1 < u.1 ∨ (gv h 110 j + 1 = u.1 ∧ (gv h 111 j + rl row < u.2.1 ∨ (gv h 111 j + rl row = u.2.1 ∧ r < u.2.2.1)))) → btr u (gv h 110 j + 1) (gv h 111 j + rl row) r := fun r z => z
    refine p_aload 115 rfl rfl rfl ?_
    refine p_iload 116 rfl rfl rfl ?_
    refine p_iload 118 rfl rfl rfl ?_
    refine p_callv (le := [some (.inr (.inr 66)), some (.inl s), some (.inl row), none, none, none, none, none]) (as := [.inr (.inr 66), .inl s, .inl row]) (rest := []) 121 0 0 0 0 rfl rfl (Nat.le_of_ble_eq_true rfl) rfl (Nat.le_of_ble_eq_true rfl) rfl rfl (Nat.le_of_ble_eq_true rfl) rfl (Nat.le_of_ble_eq_true rfl) rfl (Nat.le_refl _) (Nat.le_refl _) rfl rfl (tg_66 S1) ?_
    refine m_bends S1 s row (by omega) (by omega) (B) (fun r1 y1 p1 S1 => ?_)
    show Wp (d + 5) 0 0 M_X12_tries 121 [some (.inr (.inr 66)), some (.inl s), some (.inl f), some (.inl j), some (.inl row), some (.inl (rl row)), some (.inl (1 + gv h 110 j)), some (.inl (rl row + gv h 111 j)), none] [.inl r1] y1 _
    have er : r1 = hstF h s row := by
      rcases p1.2 with ⟨y, _⟩ | ⟨_, y⟩
      · exact absurd g y
      · have y := y.eq; rw [e86, e87] at y; exact y
    have kp := p1.1.wide (spA_mtA f)
    have o : ∀ a, 110 ≤ a → a ≤ 113 → gv y1 a f = gv h1 a f := fun a a0 a1 => p1.1.1 a f (hoA_w a f (hoA_f (by omega)))
    clear p1
    have o0 := o 110 (by decide) (by decide)
    have o1 := o 111 (by decide) (by decide)
    have o2 := o 112 (by decide) (by decide)
    refine p_istore (ls' := [some (.inr (.inr 66)), some (.inl s), some (.inl f), some (.inl j), some (.inl row), some (.inl (rl row)), some (.inl (1 + gv h 110 j)), some (.inl (rl row + gv h 111 j)), some (.inl r1)]) 123 rfl rfl (Nat.le_of_ble_eq_true rfl) rfl ?_
    refine p_iload 125 rfl rfl rfl ?_
    refine p_const 126 rfl rfl ?_
    refine p_ic_eq 129 171 rfl rfl rfl (fun c2 => ?_) (fun c2 => ?_)
    · skip
      refine p_ret rfl rfl ?_
      -- leaf 1: answer [] h=y1 
      exact no _ (fun y => y.2.1 (by rw [← er]; assumption)) kp o S1
    · skip
      refine p_aload 130 rfl rfl rfl ?_
      refine p_getfr (j := 64) (z := 110) 133 rfl rfl rfl (tg_66 S1) rfl (fi_66_64 S1) ?_
      refine p_iload 134 rfl rfl rfl ?_
      refine p_iald (w := 13) (z := gv y1 110 f) 135 rfl rfl (tg_110 S1) (ln_110 S1) (by omega) (by omega) rfl ?_
      refine p_iload 137 rfl rfl rfl ?_
      refine p_ic_ne 140 162 rfl rfl rfl (fun c3 => ?_) (fun c3 => ?_)
      · skip
        -- leaf 2: loop 162 [some (.inr (.inr 66)), some (.inl s), some (.inl f), some (.inl j), some (.inl row), some (.inl (rl row)), some (.inl (1 + gv h 110 j)), some (.inl (rl row + gv h 111 j)), some (.inl r1)] st=[] h=y1 
        exact J3 _ _ er nj (by omega) (bt _ (by rcases P with ⟨P1, P2⟩ | ⟨P0, P1, P2, P3, P4⟩ <;> omega)) kp o S1
      · skip
        refine p_aload 141 rfl rfl rfl ?_
        refine p_getfr (j := 65) (z := 111) 144 rfl rfl rfl (tg_66 S1) rfl (fi_66_65 S1) ?_
        refine p_iload 145 rfl rfl rfl ?_
        refine p_iald (w := 13) (z := gv y1 111 f) 146 rfl rfl (tg_111 S1) (ln_111 S1) (by omega) (by omega) rfl ?_
        refine p_iload 148 rfl rfl rfl ?_
        refine p_ic_ne 151 162 rfl rfl rfl (fun c4 => ?_) (fun c4 => ?_)
        · skip
          -- leaf 3: loop 162 [some (.inr (.inr 66)), some (.inl s), some (.inl f), some (.inl j), some (.inl row), some (.inl (rl row)), some (.inl (1 + gv h 110 j)), some (.inl (rl row + gv h 111 j)), some (.inl r1)] st=[] h=y1 
          exact J3 _ _ er nj (by omega) (bt _ (by rcases P with ⟨P1, P2⟩ | ⟨P0, P1, P2, P3, P4⟩ <;> omega)) kp o S1
        · skip
          refine p_iload 153 rfl rfl rfl ?_
          refine p_aload 154 rfl rfl rfl ?_
          refine p_getfr (j := 66) (z := 112) 157 rfl rfl rfl (tg_66 S1) rfl (fi_66_66 S1) ?_
          refine p_iload 158 rfl rfl rfl ?_
          refine p_iald (w := 13) (z := gv y1 112 f) 159 rfl rfl (tg_112 S1) (ln_112 S1) (by omega) (by omega) rfl ?_
          refine p_ic_ge 162 171 rfl rfl rfl (fun c5 => ?_) (fun c5 => ?_)
          · skip
            refine p_ret rfl rfl ?_
            -- leaf 4: answer [] h=y1 
            refine no _ (fun y => ?_) kp o S1
            have y3 := y.2.2.1
            rw [← er] at y3
            unfold btr at y3
            rcases P with ⟨P1, P2⟩ | ⟨P0, P1, P2, P3, P4⟩ <;> omega
          · skip
            -- leaf 5: loop 162 [some (.inr (.inr 66)), some (.inl s), some (.inl f), some (.inl j), some (.inl row), some (.inl (rl row)), some (.inl (1 + gv h 110 j)), some (.inl (rl row + gv h 111 j)), some (.inl r1)] st=[] h=y1 
            exact J3 _ _ er nj (by omega) (bt _ (by rcases P with ⟨P1, P2⟩ | ⟨P0, P1, P2, P3, P4⟩ <;> omega)) kp o S1
  have J1 : gv h 110 j ≠ -1 → Wp (d + 5) 0 0 M_X12_tries 49 [some (.inr (.inr 66)), some (.inl s), some (.inl f), some (.inl j), some (.inl row), some (.inl (rl row)), none, none, none] [] h1 q := by
    intro nj
    have ej : (if gv h 110 j = -1 then 1000 else gv h 110 j) = gv h 110 j := if_neg nj
    rw [ej] at no
    have nb : ∀ r : Int, btr u (gv h 110 j + 1) (gv h 111 j + rl row) r → (gv h 110 j + 1 < u.1 ∨ (gv h 110 j + 1 = u.1 ∧ (gv h 111 j + rl row < u.2.1 ∨ (gv h 111 j + rl row = u.2.1 ∧ r < u.2.2.1)))) := fun r z => z
    refine p_const 50 rfl rfl ?_
    refine p_aload 51 rfl rfl rfl ?_
    refine p_getfr (j := 64) (z := 110) 54 rfl rfl rfl (tg_66 S1) rfl (fi_66_64 S1) ?_
    refine p_iload 55 rfl rfl rfl ?_
    refine p_iald (w := 13) (z := (gv h 110 j)) 56 rfl rfl (tg_110 S1) (ln_110 S1) (by omega) (by omega) e110 ?_
    refine p_iadd (z := 1 + (gv h 110 j)) 57 rfl rfl (w32_id ⟨(by omega), (by omega)⟩) ?_
    refine p_istore (ls' := [some (.inr (.inr 66)), some (.inl s), some (.inl f), some (.inl j), some (.inl row), some (.inl (rl row)), some (.inl (1 + (gv h 110 j))), none, none]) 59 rfl rfl (Nat.le_of_ble_eq_true rfl) rfl ?_
    refine p_iload 61 rfl rfl rfl ?_
    refine p_aload 62 rfl rfl rfl ?_
    refine p_getfr (j := 65) (z := 111) 65 rfl rfl rfl (tg_66 S1) rfl (fi_66_65 S1) ?_
    refine p_iload 66 rfl rfl rfl ?_
    refine p_iald (w := 13) (z := (gv h 111 j)) 67 rfl rfl (tg_111 S1) (ln_111 S1) (by omega) (by omega) e111 ?_
    refine p_iadd (z := (rl row) + (gv h 111 j)) 68 rfl rfl (w32_id ⟨(by omega), (by omega)⟩) ?_
    refine p_istore (ls' := [some (.inr (.inr 66)), some (.inl s), some (.inl f), some (.inl j), some (.inl row), some (.inl (rl row)), some (.inl (1 + (gv h 110 j))), some (.inl ((rl row) + (gv h 111 j))), none]) 70 rfl rfl (Nat.le_of_ble_eq_true rfl) rfl ?_
    refine p_aload 71 rfl rfl rfl ?_
    refine p_getfr (j := 64) (z := 110) 74 rfl rfl rfl (tg_66 S1) rfl (fi_66_64 S1) ?_
    refine p_iload 75 rfl rfl rfl ?_
    refine p_iald (w := 13) (z := gv h1 110 f) 76 rfl rfl (tg_110 S1) (ln_110 S1) (by omega) (by omega) rfl ?_
    refine p_const 77 rfl rfl ?_
    refine p_ic_eq 80 114 rfl rfl rfl (fun c1 => ?_) (fun c1 => ?_)
    · skip
      -- leaf 1: loop 114 [some (.inr (.inr 66)), some (.inl s), some (.inl f), some (.inl j), some (.inl row), some (.inl (rl row)), some (.inl (1 + (gv h 110 j))), some (.inl ((rl row) + (gv h 111 j))), none] st=[] h=h1 
      exact J2 nj (by omega)
    · skip
      refine p_iload 82 rfl rfl rfl ?_
      refine p_aload 83 rfl rfl rfl ?_
      refine p_getfr (j := 64) (z := 110) 86 rfl rfl rfl (tg_66 S1) rfl (fi_66_64 S1) ?_
      refine p_iload 87 rfl rfl rfl ?_
      refine p_iald (w := 13) (z := gv h1 110 f) 88 rfl rfl (tg_110 S1) (ln_110 S1) (by omega) (by omega) rfl ?_
      refine p_ic_gt 91 113 rfl rfl rfl (fun c2 => ?_) (fun c2 => ?_)
      · skip
        refine p_ret rfl rfl ?_
        -- leaf 2: answer [] h=h1 
        refine no _ (fun y => ?_) (Keep.rf _ _) (fun _ _ _ => rfl) S1
        have y3 := nb _ y.2.2.1
        rcases P with ⟨P1, P2⟩ | ⟨P0, P1, P2, P3, P4⟩ <;> omega
      · skip
        refine p_iload 93 rfl rfl rfl ?_
        refine p_aload 94 rfl rfl rfl ?_
        refine p_getfr (j := 64) (z := 110) 97 rfl rfl rfl (tg_66 S1) rfl (fi_66_64 S1) ?_
        refine p_iload 98 rfl rfl rfl ?_
        refine p_iald (w := 13) (z := gv h1 110 f) 99 rfl rfl (tg_110 S1) (ln_110 S1) (by omega) (by omega) rfl ?_
        refine p_ic_ne 102 114 rfl rfl rfl (fun c3 => ?_) (fun c3 => ?_)
        · skip
          -- leaf 3: loop 114 [some (.inr (.inr 66)), some (.inl s), some (.inl f), some (.inl j), some (.inl row), some (.inl (rl row)), some (.inl (1 + (gv h 110 j))), some (.inl ((rl row) + (gv h 111 j))), none] st=[] h=h1 
          exact J2 nj (by omega)
        · skip
          refine p_iload 104 rfl rfl rfl ?_
          refine p_aload 105 rfl rfl rfl ?_
          refine p_getfr (j := 65) (z := 111) 108 rfl rfl rfl (tg_66 S1) rfl (fi_66_65 S1) ?_
          refine p_iload 109 rfl rfl rfl ?_
          refine p_iald (w := 13) (z := gv h1 111 f) 110 rfl rfl (tg_111 S1) (ln_111 S1) (by omega) (by omega) rfl ?_
          refine p_ic_le 113 114 rfl rfl rfl (fun c4 => ?_) (fun c4 => ?_)
          · skip
            -- leaf 4: loop 114 [some (.inr (.inr 66)), some (.inl s), some (.inl f), some (.inl j), some (.inl row), some (.inl (rl row)), some (.inl (1 + (gv h 110 j))), some (.inl ((rl row) + (gv h 111 j))), none] st=[] h=h1 
            exact J2 nj (by omega)
          · skip
            refine p_ret rfl rfl ?_
            -- leaf 5: answer [] h=h1 
            refine no _ (fun y => ?_) (Keep.rf _ _) (fun _ _ _ => rfl) S1
            have y3 := nb _ y.2.2.1
            rcases P with ⟨P1, P2⟩ | ⟨P0, P1, P2, P3, P4⟩ <;> omega
  have ra : rl row = if row < 32 then 1 else if row < 1024 then 2 else if row < 32768 then 3 else 4 := by
    unfold rl; (repeat' split) <;> omega
  refine p_aload 1 rfl rfl rfl ?_
  refine p_getfr (j := 64) (z := 110) 4 rfl rfl rfl (tg_66 S1) rfl (fi_66_64 S1) ?_
  refine p_iload 5 rfl rfl rfl ?_
  refine p_iald (w := 13) (z := (gv h 110 j)) 6 rfl rfl (tg_110 S1) (ln_110 S1) (by omega) (by omega) e110 ?_
  refine p_const 7 rfl rfl ?_
  refine p_ic_ne 10 11 rfl rfl rfl (fun c1 => ?_) (fun c1 => ?_)
  · skip
    refine p_iload 13 rfl rfl rfl ?_
    refine p_const 15 rfl rfl ?_
    refine p_ic_ge 18 22 rfl rfl rfl (fun c2 => ?_) (fun c2 => ?_)
    · skip
      refine p_iload 24 rfl rfl rfl ?_
      refine p_const 27 rfl rfl ?_
      refine p_ic_ge 30 34 rfl rfl rfl (fun c3 => ?_) (fun c3 => ?_)
      · skip
        refine p_iload 36 rfl rfl rfl ?_
        refine p_const 39 rfl rfl ?_
        refine p_ic_ge 42 46 rfl rfl rfl (fun c4 => ?_) (fun c4 => ?_)
        · skip
          refine p_const 47 rfl rfl ?_
          refine p_istore (ls' := [some (.inr (.inr 66)), some (.inl s), some (.inl f), some (.inl j), some (.inl row), some (.inl 4), none, none, none]) 49 rfl rfl (Nat.le_of_ble_eq_true rfl) rfl ?_
          -- leaf 1: loop 49 [some (.inr (.inr 66)), some (.inl s), some (.inl f), some (.inl j), some (.inl row), some (.inl 4), none, none, none] st=[] h=h1 
          have y := J1 (by omega); rw [show rl row = 4 by rw [ra]; (repeat' split) <;> omega] at y; exact y
        · skip
          refine p_const 43 rfl rfl ?_
          refine p_goto 47 rfl rfl ?_
          refine p_istore (ls' := [some (.inr (.inr 66)), some (.inl s), some (.inl f), some (.inl j), some (.inl row), some (.inl 3), none, none, none]) 49 rfl rfl (Nat.le_of_ble_eq_true rfl) rfl ?_
          -- leaf 2: loop 49 [some (.inr (.inr 66)), some (.inl s), some (.inl f), some (.inl j), some (.inl row), some (.inl 3), none, none, none] st=[] h=h1 
          have y := J1 (by omega); rw [show rl row = 3 by rw [ra]; (repeat' split) <;> omega] at y; exact y
      · skip
        refine p_const 31 rfl rfl ?_
        refine p_goto 47 rfl rfl ?_
        refine p_istore (ls' := [some (.inr (.inr 66)), some (.inl s), some (.inl f), some (.inl j), some (.inl row), some (.inl 2), none, none, none]) 49 rfl rfl (Nat.le_of_ble_eq_true rfl) rfl ?_
        -- leaf 3: loop 49 [some (.inr (.inr 66)), some (.inl s), some (.inl f), some (.inl j), some (.inl row), some (.inl 2), none, none, none] st=[] h=h1 
        have y := J1 (by omega); rw [show rl row = 2 by rw [ra]; (repeat' split) <;> omega] at y; exact y
    · skip
      refine p_const 19 rfl rfl ?_
      refine p_goto 47 rfl rfl ?_
      refine p_istore (ls' := [some (.inr (.inr 66)), some (.inl s), some (.inl f), some (.inl j), some (.inl row), some (.inl 1), none, none, none]) 49 rfl rfl (Nat.le_of_ble_eq_true rfl) rfl ?_
      -- leaf 4: loop 49 [some (.inr (.inr 66)), some (.inl s), some (.inl f), some (.inl j), some (.inl row), some (.inl 1), none, none, none] st=[] h=h1 
      have y := J1 (by omega); rw [show rl row = 1 by rw [ra]; (repeat' split) <;> omega] at y; exact y
  · skip
    refine p_ret rfl rfl ?_
    -- leaf 5: answer [] h=h1 
    refine no _ (fun y => ?_) (Keep.rf _ _) (fun _ _ _ => rfl) S1
    have y1 := y.1
    rw [if_pos (by omega)] at y1
    omega

