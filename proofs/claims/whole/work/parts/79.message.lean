/-! MESSAGE, the class's side -/
def Msg (h : PH) (T : Int → Int) (n r : Int) (l : List Int) : Prop := (kb h = 0 ∧ r = -1 ∧ l = []) ∨ (kb h ≠ 0 ∧ MsgR T n (okW h (kb h)) r l)
def xmA (a i : Int) : Bool := decide ((a = 3 ∧ i = 1) ∨ a = 63 ∨ a = 64 ∨ (a = 2 ∧ i = 10))
theorem scA_xmA : ∀ a i, xmA a i = false → scA a i = false := fun a i => dw (by omega)
theorem xmA_bkB : ∀ a i, bkB a i = false → xmA a i = false := fun a i => dw (by omega)
theorem xmA_b : ∀ a i, (128 : Int) ≤ a → xmA a i = false := fun a i h => decide_eq_false (by omega)
theorem x_message {d : Nat} {h : PH} {q : PQ} (S : Shape h) (A : AI h) {T : Int → Int} {n : Int} (O : TxO T n) (X : TxX h T n)
    (K : ∀ r h', (Keep xmA h h' ∧ gv h' 3 1 = 0 ∧ ∃ l, Msg h T n r l ∧ ((r = -1 ∧ gv h' 2 10 = gv h 2 10 ∧ ∀ i, gv h' 64 i = gv h 64 i) ∨ (r ≠ -1 ∧ gv h' 2 10 = r ∧ ∀ (j : Nat) w, l[j]? = some w → gv h' 64 j = w))) → Shape h' → q (some (.inl r)) h') :
    Wp (d + 5) 0 0 M_X11_message 0 [some (.inr (.inr 2)), none, none] [] h q := by
  have A0 := A
  rcases A.kb with ⟨k0, x0⟩ | ⟨k1, k2, z1, Ro⟩
  · skip
    refine p_aload 1 rfl rfl rfl ?_
    refine p_callv (le := [some (.inr (.inr 2))]) (as := [.inr (.inr 2)]) (rest := []) 4 0 0 0 0 rfl rfl (Nat.le_of_ble_eq_true rfl) rfl (Nat.le_of_ble_eq_true rfl) rfl rfl (Nat.le_of_ble_eq_true rfl) rfl (Nat.le_of_ble_eq_true rfl) rfl (Nat.le_refl _) (Nat.le_refl _) rfl rfl (tg_2 S) ?_
    refine x_knownBook S  (A0) ?_
    show Wp (d + 5) 0 0 M_X11_message 4 [some (.inr (.inr 2)), none, none] [.inr (.inr (xb h))] h _
    refine p_astore (ls' := [some (.inr (.inr 2)), some (.inr (.inr (xb h))), none]) 5 rfl rfl (Nat.le_of_ble_eq_true rfl) rfl ?_
    refine p_aload 6 rfl rfl rfl ?_
    refine p_ifnonnull 9 13 rfl rfl rfl (fun z => absurd (by omega) z) (fun c2 => ?_)
    refine p_const 10 rfl rfl ?_
    refine p_goto 18 rfl rfl ?_
    refine p_istore (ls' := [some (.inr (.inr 2)), some (.inr (.inr (xb h))), some (.inl (-1))]) 19 rfl rfl (Nat.le_of_ble_eq_true rfl) rfl ?_
    refine p_aload 20 rfl rfl rfl ?_
    refine p_getfr (j := 0) (z := 3) 23 rfl rfl rfl (tg_2 S) rfl (fi_2_0 S) ?_
    refine p_const 24 rfl rfl ?_
    refine p_putfi (j := 1) 27 rfl rfl rfl (fun z => absurd z (by decide)) (tg_3 S) rfl ?_
    refine p_nmh (fun y3 e3 => ?_)
    have S3 : Shape y3 := by rw [e3]; exact S.svF ff_3_1 _
    have kp3 : Keep xmA h y3 := by rw [e3]; exact (Keep.rf xmA _).sv rfl _
    refine p_iload 28 rfl rfl rfl ?_
    refine p_const 29 rfl rfl ?_
    refine p_ic_ne_f 32 rfl rfl (by decide) ?_
    refine p_const 33 rfl rfl ?_
    refine p_iret rfl rfl ?_
    -- leaf 1: answer [.inl (-1)] h=y3 e3 kp3
    exact K _ _ ⟨kp3, by rw [e3, sv_eq], [], Or.inl ⟨k0, rfl, rfl⟩, Or.inl ⟨rfl, by rw [e3, sv_ne (by decide)], fun i => by rw [e3, sv_ne (by decide)]⟩⟩ S3
  · skip
    refine p_aload 1 rfl rfl rfl ?_
    refine p_callv (le := [some (.inr (.inr 2))]) (as := [.inr (.inr 2)]) (rest := []) 4 0 0 0 0 rfl rfl (Nat.le_of_ble_eq_true rfl) rfl (Nat.le_of_ble_eq_true rfl) rfl rfl (Nat.le_of_ble_eq_true rfl) rfl (Nat.le_of_ble_eq_true rfl) rfl (Nat.le_refl _) (Nat.le_refl _) rfl rfl (tg_2 S) ?_
    refine x_knownBook S  (A0) ?_
    show Wp (d + 5) 0 0 M_X11_message 4 [some (.inr (.inr 2)), none, none] [.inr (.inr (xb h))] h _
    refine p_astore (ls' := [some (.inr (.inr 2)), some (.inr (.inr (xb h))), none]) 5 rfl rfl (Nat.le_of_ble_eq_true rfl) rfl ?_
    refine p_aload 6 rfl rfl rfl ?_
    refine p_ifnonnull 9 13 rfl rfl rfl (fun c2 => ?_) (fun z => absurd z (by omega))
    refine p_aload 14 rfl rfl rfl ?_
    refine p_aload 15 rfl rfl rfl ?_
    refine p_callv (le := [some (.inr (.inr 2)), some (.inr (.inr (xb h))), none, none, none, none]) (as := [.inr (.inr 2), .inr (.inr (xb h))]) (rest := []) 18 0 0 0 0 rfl rfl (Nat.le_of_ble_eq_true rfl) rfl (Nat.le_of_ble_eq_true rfl) rfl rfl (Nat.le_of_ble_eq_true rfl) rfl (Nat.le_of_ble_eq_true rfl) rfl (Nat.le_refl _) (Nat.le_refl _) rfl rfl (tg_2 S) ?_
    refine x_scanNames S (xb h) O X Ro (fun r3 y3 p3 S3 => ?_)
    have kp3 : Keep xmA h y3 := (p3.1.wide scA_xmA)
    show Wp (d + 5) 0 0 M_X11_message 18 [some (.inr (.inr 2)), some (.inr (.inr (xb h))), none] [.inl r3] y3 _
    refine p_istore (ls' := [some (.inr (.inr 2)), some (.inr (.inr (xb h))), some (.inl r3)]) 19 rfl rfl (Nat.le_of_ble_eq_true rfl) rfl ?_
    refine p_aload 20 rfl rfl rfl ?_
    refine p_getfr (j := 0) (z := 3) 23 rfl rfl rfl (tg_2 S3) rfl (fi_2_0 S3) ?_
    refine p_const 24 rfl rfl ?_
    refine p_putfi (j := 1) 27 rfl rfl rfl (fun z => absurd z (by decide)) (tg_3 S3) rfl ?_
    refine p_nmh (fun y4 e4 => ?_)
    have S4 : Shape y4 := by rw [e4]; exact S3.svF ff_3_1 _
    have kp4 : Keep xmA h y4 := by rw [e4]; exact kp3.sv rfl _
    refine p_iload 28 rfl rfl rfl ?_
    refine p_const 29 rfl rfl ?_
    refine p_ic_ne 32 34 rfl rfl rfl (fun c5 => ?_) (fun c5 => ?_)
    · skip
      refine p_aload 35 rfl rfl rfl ?_
      refine p_getfr (j := 8) (z := 63) 38 rfl rfl rfl (tg_2 S4) rfl (fi_2_8 S4) ?_
      refine p_const 39 rfl rfl ?_
      refine p_aload 40 rfl rfl rfl ?_
      refine p_getfr (j := 9) (z := 64) 43 rfl rfl rfl (tg_2 S4) rfl (fi_2_9 S4) ?_
      refine p_const 44 rfl rfl ?_
      refine p_const 46 rfl rfl ?_
      refine p_copy (wa := 12) (wb := 12) 49 rfl rfl (by decide) (by decide) (tg_63 S4) (tg_64 S4) (ln_63 S4) (ln_64 S4) (by omega) (by omega) (by omega) (by omega) (by omega) (Nat.succ_pos _) (Nat.le_of_ble_eq_true rfl) ?_
      refine p_nmh (fun y6 e6 => ?_)
      have S6 : Shape y6 := by rw [e6]; exact S4.cp fa_64 _ _ _ _
      have kp6 : Keep xmA h y6 := by rw [e6]; exact kp4.cp (by intro i; rfl) _ _ _ _
      refine p_aload 50 rfl rfl rfl ?_
      refine p_iload 51 rfl rfl rfl ?_
      refine p_putfi (j := 10) 54 rfl rfl rfl (fun z => absurd z (by decide)) (tg_2 S6) rfl ?_
      refine p_nmh (fun y7 e7 => ?_)
      have S7 : Shape y7 := by rw [e7]; exact S6.svF ff_2_10 _
      have kp7 : Keep xmA h y7 := by rw [e7]; exact kp6.sv rfl _
      refine p_iload 55 rfl rfl rfl ?_
      refine p_iret rfl rfl ?_
      -- leaf 1: answer [.inl r3] h=y7 e7 kp7
      obtain ⟨k3, l, m, w3⟩ := p3
      rcases m with m | ⟨m1, _⟩
      · refine K _ _ ⟨kp7, ?_, l, Or.inr ⟨by omega, Or.inl m⟩, Or.inr ⟨c5, by rw [e7, sv_eq], fun j w hw => ?_⟩⟩ S7
        · rw [e7, sv_ne (by decide), e6]
          show (if (3 : Int) = 64 ∧ 0 ≤ (1 : Int) ∧ (1 : Int) < 0 + 12 then gv y4 63 (0 + (1 - 0)) else gv y4 3 1) = 0
          rw [if_neg (by omega), e4, sv_eq]
        · have li := get_lt hw
          have m3 := m.2.2.1
          rw [e7, sv_ne (by decide), e6]
          show (if (64 : Int) = 64 ∧ 0 ≤ (j : Int) ∧ (j : Int) < 0 + 12 then gv y4 63 (0 + ((j : Int) - 0)) else _) = w
          rw [if_pos ⟨rfl, by omega, by omega⟩, show (0 : Int) + ((j : Int) - 0) = (j : Int) by omega, e4, sv_ne (by decide)]
          exact w3 j w hw
      · exact absurd m1 c5
    · skip
      refine p_const 33 rfl rfl ?_
      refine p_iret rfl rfl ?_
      -- leaf 2: answer [.inl (-1)] h=y4 e4 kp4
      obtain ⟨k3, l, m, w3⟩ := p3
      have r1 : r3 = -1 := by omega
      rw [r1] at m
      refine K _ _ ⟨kp4, by rw [e4, sv_eq], l, Or.inr ⟨by omega, m⟩, Or.inl ⟨rfl, by rw [e4, sv_ne (by decide)]; exact k3.1 2 10 rfl, fun i => by rw [e4, sv_ne (by decide)]; exact k3.1 64 i rfl⟩⟩ S4
/-! the model's side -/
theorem m_isName {d : Nat} {h : PH} {q : PQ} (S : Shape h) (b w : Int) (b0 : 0 ≤ b) (b1 : b ≤ 200) (n0 : 0 ≤ gv h 79 b) (n40 : gv h 79 b ≤ 40) (K1 : okW h b w → q (some (.inl 1)) h) (K2 : ¬ okW h b w → q (some (.inl 0)) h) :
    Wp (d + 1) 0 0 M_X12_isName 0 [some (.inr (.inr 66)), some (.inl b), some (.inr (.inl w)), none, none] [] h q := by
  have y := isF_frs (nm h b) w (gv h 79 b).toNat
  rw [Int.toNat_of_nonneg n0] at y
  have L : ∀ (c : Nat) (i : Int), i + c = gv h 79 b → 0 ≤ i → (∀ j, 0 ≤ j → j < i → nm h b j ≠ w) → Wp (d + 1) 0 0 M_X12_isName 3 [some (.inr (.inr 66)), some (.inl b), some (.inr (.inl w)), none, some (.inl i)] [] h q := by
    intro c
    induction c with
    | zero =>
      intro i hi i0 nn
      refine p_iload 5 rfl rfl rfl ?_
      refine p_aload 6 rfl rfl rfl ?_
      refine p_getfr (j := 20) (z := 79) 9 rfl rfl rfl (tg_66 S) rfl (fi_66_20 S) ?_
      refine p_iload 10 rfl rfl rfl ?_
      refine p_iald (w := 201) (z := gv h 79 b) 11 rfl rfl (tg_79 S) (ln_79 S) (by omega) (by omega) rfl ?_
      refine p_ic_ge_t 39 rfl rfl (by omega) ?_
      refine p_const 40 rfl rfl ?_
      refine p_zret rfl rfl (by decide) ?_
      -- leaf 1: answer [.inl 0] h=h 
      refine K2 (fun z => ?_)
      unfold okW at z
      rcases y with ⟨y1, y2, y3, _⟩ | ⟨y1, _⟩
      · exact nn _ y1 (by omega) y3
      · exact z y1
    | succ c ih =>
      intro i hi i0 nn
      have e1 : gv h 80 (40 * b + i) = nm h b i := rfl
      refine p_iload 5 rfl rfl rfl ?_
      refine p_aload 6 rfl rfl rfl ?_
      refine p_getfr (j := 20) (z := 79) 9 rfl rfl rfl (tg_66 S) rfl (fi_66_20 S) ?_
      refine p_iload 10 rfl rfl rfl ?_
      refine p_iald (w := 201) (z := gv h 79 b) 11 rfl rfl (tg_79 S) (ln_79 S) (by omega) (by omega) rfl ?_
      refine p_ic_ge_f 14 rfl rfl (by omega) ?_
      refine p_aload 15 rfl rfl rfl ?_
      refine p_getfr (j := 21) (z := 80) 18 rfl rfl rfl (tg_66 S) rfl (fi_66_21 S) ?_
      refine p_const 20 rfl rfl ?_
      refine p_iload 21 rfl rfl rfl ?_
      refine p_imul (z := 40 * b) 22 rfl rfl (w32_id ⟨(by omega), (by omega)⟩) ?_
      refine p_iload 24 rfl rfl rfl ?_
      refine p_iadd (z := (40 * b) + i) 25 rfl rfl (w32_id ⟨(by omega), (by omega)⟩) ?_
      refine p_lald (w := 8040) (z := gv h 80 ((40 * b) + i)) 26 rfl rfl (tg_80 S) (ln_80 S) (by omega) (by omega) rfl ?_
      refine p_lload 27 rfl rfl rfl ?_
      refine p_lc_ne 28 31 33 rfl rfl rfl rfl rfl (fun c1 => ?_) (fun c1 => ?_)
      · skip
        refine p_iinc (y := i + 1) (ls' := [some (.inr (.inr 66)), some (.inl b), some (.inr (.inl w)), none, some (.inl (i + 1))]) 36 rfl rfl rfl (w32_id ⟨(by omega), (by omega)⟩) rfl ?_
        refine p_goto 3 rfl rfl ?_
        -- leaf 1: loop 3 [some (.inr (.inr 66)), some (.inl b), some (.inr (.inl w)), none, some (.inl (i + 1))] st=[] h=h 
        exact ih (i + 1) (by omega) (by omega) (fun j j0 j1 => by by_cases z : j = i; rw [z]; exact c1; exact nn j j0 (by omega))
      · skip
        refine p_const 32 rfl rfl ?_
        refine p_zret rfl rfl (by decide) ?_
        -- leaf 2: answer [.inl 1] h=h 
        refine K1 (fun z => ?_)
        have c1 : nm h b i = w := by rw [← e1]; omega
        rcases y with ⟨y1, _⟩ | ⟨_, y1⟩
        · omega
        · exact y1 i i0 (by omega) c1
  refine p_const 1 rfl rfl ?_
  refine p_istore (ls' := [some (.inr (.inr 66)), some (.inl b), some (.inr (.inl w)), none, some (.inl 0)]) 3 rfl rfl (Nat.le_of_ble_eq_true rfl) rfl ?_
  -- leaf 1: loop 3 [some (.inr (.inr 66)), some (.inl b), some (.inr (.inl w)), none, some (.inl 0)] st=[] h=h 
  exact L (gv h 79 b).toNat 0 (by omega) (Int.le_refl 0) (fun j j0 j1 => by omega)
def mmA (a i : Int) : Bool := decide ((a = 66 ∧ (1 ≤ i ∧ i ≤ 6 ∨ i = 59)) ∨ a = 107 ∨ a = 108)
theorem mmA_bkB : ∀ a i, bkB a i = false → mmA a i = false := fun a i => dw (by omega)
theorem lukA_mmA : ∀ a i, mmA a i = false → lukA a i = false := fun a i => dw (by omega)
theorem lsrA_mmA : ∀ a i, mmA a i = false → lsrA a i = false := fun a i => dw (by omega)
theorem m_message {d : Nat} {h : PH} {q : PQ} (S : Shape h) (A : AI h) {T : Int → Int} {n : Int} (O : TxO T n) (hn : gv h 66 1 = n) (hT : ∀ i, 0 ≤ i → i < n → gv h 67 i = T i)
    (K : ∀ r h', (Keep mmA h h' ∧ gv h' 66 1 = 0 ∧ ∃ l, Msg h T n r l ∧ ((r = -1 ∧ gv h' 66 59 = gv h 66 59 ∧ ∀ i, gv h' 107 i = gv h 107 i) ∨ (r ≠ -1 ∧ gv h' 66 59 = r ∧ ∀ (j : Nat) w, l[j]? = some w → gv h' 107 j = w))) → Shape h' → q (some (.inl r)) h') :
    Wp (d + 4) 0 0 M_X12_message 0 [some (.inr (.inr 66)), none, none, none, none] [] h q := by
  have A0 := A
  have nwi := nw_in A
  have n7 := O.1
  have J169 : ∀ (c : Nat) (j g m : Int) (D : List Int) (h1 : PH), j + c = m → 0 ≤ j → m = D.length → m ≤ 12 → 1 ≤ m → Msg h T n m D → Shape h1 → Keep mmA h h1 → gv h1 66 1 = 0 → gv h1 66 59 = m → (∀ (j : Nat) w, D[j]? = some w → gv h1 108 j = w) → (∀ i, 0 ≤ i → i < j → gv h1 107 i = gv h1 108 i) →
      Wp (d + 4) 0 0 M_X12_message 169 [some (.inr (.inr 66)), some (.inl (kb h)), some (.inl m), some (.inl g), some (.inl j)] [] h1 q := by
    intro c
    induction c with
    | zero =>
      intro j g m D h1 hj j0 hm m12 m1 M S1 k1 t0 g59 n8 c7
      refine p_iload 171 rfl rfl rfl ?_
      refine p_iload 172 rfl rfl rfl ?_
      refine p_ic_ge_t 195 rfl rfl (by omega) ?_
      refine p_iload 196 rfl rfl rfl ?_
      refine p_iret rfl rfl ?_
      -- leaf 1: answer [.inl m] h=h1 
      refine K m h1 ⟨k1, t0, D, M, Or.inr ⟨by omega, g59, fun i w hw => ?_⟩⟩ S1
      have li := get_lt hw
      rw [c7 i (by omega) (by omega)]; exact n8 i w hw
    | succ c ih =>
      intro j g m D h1 hj j0 hm m12 m1 M S1 k1 t0 g59 n8 c7
      refine p_iload 171 rfl rfl rfl ?_
      refine p_iload 172 rfl rfl rfl ?_
      refine p_ic_ge_f 175 rfl rfl (by omega) ?_
      refine p_aload 176 rfl rfl rfl ?_
      refine p_getfr (j := 60) (z := 107) 179 rfl rfl rfl (tg_66 S1) rfl (fi_66_60 S1) ?_
      refine p_iload 181 rfl rfl rfl ?_
      refine p_aload 182 rfl rfl rfl ?_
      refine p_getfr (j := 61) (z := 108) 185 rfl rfl rfl (tg_66 S1) rfl (fi_66_61 S1) ?_
      refine p_iload 187 rfl rfl rfl ?_
      refine p_lald (w := 12) (z := gv h1 108 j) 188 rfl rfl (tg_108 S1) (ln_108 S1) (by omega) (by omega) rfl ?_
      refine p_last (w := 12) 189 rfl rfl (by decide) (tg_107 S1) (ln_107 S1) (by omega) (by omega) ?_
      refine p_nmh (fun y1 e1 => ?_)
      have S1 : Shape y1 := by rw [e1]; exact S1.svA fa_107 _ _
      refine p_iinc (y := j + 1) (ls' := [some (.inr (.inr 66)), some (.inl (kb h)), some (.inl m), some (.inl g), some (.inl (j + 1))]) 192 rfl rfl rfl (w32_id ⟨(by omega), (by omega)⟩) rfl ?_
      refine p_goto 169 rfl rfl ?_
      -- leaf 1: loop 169 [some (.inr (.inr 66)), some (.inl (kb h)), some (.inl m), some (.inl g), some (.inl (j + 1))] st=[] h=y1 e1
      refine ih (j + 1) g m D _ (by omega) (by omega) hm m12 m1 M S1 (by rw [e1]; exact k1.sv rfl _) (by rw [e1, sv_ne (by decide)]; exact t0) (by rw [e1, sv_ne (by decide)]; exact g59) (fun i w hw => by rw [e1, sv_ne (by decide)]; exact n8 i w hw) (fun i i0 i1 => ?_)
      by_cases z : i = j
      · rw [z, e1, sv_eq, sv_ne (by decide)]
      · rw [e1, sv_nf (by omega), sv_ne (by decide)]; exact c7 i i0 (by omega)
  have J49f : ∀ (m : Int) (h1 : PH), Msg h T n (-1) [] → Shape h1 → Keep mmA h h1 → gv h1 66 1 = 0 → gv h1 66 59 = gv h 66 59 → (∀ i, gv h1 107 i = gv h 107 i) →
      Wp (d + 4) 0 0 M_X12_message 49 [some (.inr (.inr 66)), some (.inl (kb h)), some (.inl m), some (.inl 0), none] [] h1 q := by
    intro m h1 M S1 k1 t0 g59 w7
    refine p_iload 50 rfl rfl rfl ?_
    refine p_if_eq_t 146 rfl rfl (by decide) ?_
    refine p_aload 147 rfl rfl rfl ?_
    refine p_const 148 rfl rfl ?_
    refine p_putfi (j := 5) 151 rfl rfl rfl (fun z => absurd z (by decide)) (tg_66 S1) rfl ?_
    refine p_nmh (fun y1 e1 => ?_)
    have S1 : Shape y1 := by rw [e1]; exact S1.svF ff_66_5 _
    refine p_iload 152 rfl rfl rfl ?_
    refine p_if_eq_t 159 rfl rfl (by decide) ?_
    refine p_const 160 rfl rfl ?_
    refine p_iret rfl rfl ?_
    -- leaf 1: answer [.inl (-1)] h=y1 e1
    exact K (-1) _ ⟨by rw [e1]; exact k1.sv rfl _, by rw [e1, sv_nf (by decide)]; exact t0, [], M, Or.inl ⟨rfl, by rw [e1, sv_nf (by decide)]; exact g59, fun i => by rw [e1, sv_ne (by decide)]; exact w7 i⟩⟩ S1
  have J49 : ∀ (c : Nat) (p m : Int) (D : List Int) (h1 : PH), n - p < c → 0 ≤ p → p ≤ n → kb h ≠ 0 → m = D.length → m ≤ 12 → (∀ l, Scn T n (okW h (kb h)) l 0 ↔ ∃ l', l = D ++ l' ∧ Scn T n (okW h (kb h)) l' p) → Shape h1 → Keep mmA h h1 → TxM h1 T n → gv h1 66 1 = 0 → gv h1 66 59 = gv h 66 59 → (∀ i, gv h1 107 i = gv h 107 i) → gv h1 66 2 = p → gv h1 66 5 = 0 → ¬ isLet (T (gv h1 66 4)) → (∀ (j : Nat) w, D[j]? = some w → gv h1 108 j = w) →
      Wp (d + 4) 0 0 M_X12_message 49 [some (.inr (.inr 66)), some (.inl (kb h)), some (.inl m), some (.inl 1), none] [] h1 q := by
    intro c
    have bad : ∀ (p : Int) (m : Int) (D : List Int) (h1 : PH) (m' : Int), kb h ≠ 0 → m = D.length → (∀ l, Scn T n (okW h (kb h)) l 0 ↔ ∃ l', l = D ++ l' ∧ Scn T n (okW h (kb h)) l' p) → (∀ l', Scn T n (okW h (kb h)) l' p → ¬ (1 ≤ D.length + l'.length ∧ D.length + l'.length ≤ 12)) → Shape h1 → Keep mmA h h1 → gv h1 66 1 = 0 → gv h1 66 59 = gv h 66 59 → (∀ i, gv h1 107 i = gv h 107 i) → Wp (d + 4) 0 0 M_X12_message 49 [some (.inr (.inr 66)), some (.inl (kb h)), some (.inl m'), some (.inl 0), none] [] h1 q := by
      intro p m D h1 m' kn hm iff no S1 k1 t0 g59 w7
      refine J49f m' h1 (Or.inr ⟨kn, Or.inr ⟨rfl, rfl, fun l' hl hb => ?_⟩⟩) S1 k1 t0 g59 w7
      obtain ⟨l2, e2, s2⟩ := (iff l').1 hl
      rw [e2, List.length_append] at hb
      exact no l2 s2 hb
    induction c with
    | zero =>
      intro p m D h1 hp p0 pn kn hm m12 iff S1 k1 X1 t0 g59 w7 g2 g5 g4 n8
      exfalso; omega
    | succ c ih =>
      intro p m D h1 hp p0 pn kn hm m12 iff S1 k1 X1 t0 g59 w7 g2 g5 g4 n8
      refine p_iload 50 rfl rfl rfl ?_
      refine p_if_eq_f 53 rfl rfl (by decide) ?_
      refine p_aload 54 rfl rfl rfl ?_
      refine p_callv (le := [some (.inr (.inr 66))]) (as := [.inr (.inr 66)]) (rest := []) 57 0 0 0 0 rfl rfl (Nat.le_of_ble_eq_true rfl) rfl (Nat.le_of_ble_eq_true rfl) rfl rfl (Nat.le_of_ble_eq_true rfl) rfl (Nat.le_of_ble_eq_true rfl) rfl (Nat.le_refl _) (Nat.le_refl _) rfl rfl (tg_66 S1) ?_
      refine m_look S1 O X1 g2 p0 pn (fun r1 y1 p1 S1 => ?_)
      show Wp (d + 4) 0 0 M_X12_message 57 [some (.inr (.inr 66)), some (.inl (kb h)), some (.inl m), some (.inl 1), none] [.inl r1] y1 _
      refine p_const 58 rfl rfl ?_
      obtain ⟨kl, e, hx, pn, g2, rl1⟩ := p1
      have p0 : 0 ≤ e := by have := hx.1; omega
      have X1 : TxM y1 T n := X1.kp (kl.1 66 3 rfl) (fun i => kl.1 67 i rfl)
      have sk := fun l => Scn.skip (n := n) (ok := okW h (kb h)) (l := l) hx
      have iff : ∀ l, Scn T n (okW h (kb h)) l 0 ↔ ∃ l', l = D ++ l' ∧ Scn T n (okW h (kb h)) l' e := fun l => by rw [iff l]; constructor; exact fun ⟨l', a, b⟩ => ⟨l', a, (sk l').1 b⟩; exact fun ⟨l', a, b⟩ => ⟨l', a, (sk l').2 b⟩
      have k1 := k1.trans (kl.wide lukA_mmA)
      have t0 : gv y1 66 1 = 0 := (kl.1 66 1 rfl).trans t0
      have g59 : gv y1 66 59 = gv h 66 59 := (kl.1 66 59 rfl).trans g59
      have g5 : gv y1 66 5 = 0 := (kl.1 66 5 rfl).trans g5
      have g4 : ¬ isLet (T (gv y1 66 4)) := by rw [kl.1 66 4 rfl]; exact g4
      have w7 : ∀ i, gv y1 107 i = gv h 107 i := fun i => (kl.1 107 i rfl).trans (w7 i)
      have n8 : ∀ (j : Nat) w, D[j]? = some w → gv y1 108 j = w := fun j w hw => (kl.1 108 j rfl).trans (n8 j w hw)
      refine p_ic_eq 61 146 rfl rfl rfl (fun c2 => ?_) (fun c2 => ?_)
      · skip
        have D0 : Scn T n (okW h (kb h)) D 0 := (iff D).2 ⟨[], (List.append_nil D).symm, (Scn.end_ O (by by_cases z : e < n; have := O.2.1 e p0 z; omega; omega) p0).2 rfl⟩
        refine p_aload 147 rfl rfl rfl ?_
        refine p_const 148 rfl rfl ?_
        refine p_putfi (j := 5) 151 rfl rfl rfl (fun z => absurd z (by decide)) (tg_66 S1) rfl ?_
        refine p_nmh (fun y3 e3 => ?_)
        have S3 : Shape y3 := by rw [e3]; exact S1.svF ff_66_5 _
        refine p_iload 152 rfl rfl rfl ?_
        refine p_if_eq_f 155 rfl rfl (by decide) ?_
        refine p_iload 156 rfl rfl rfl ?_
        refine p_if_ne 159 161 rfl rfl rfl (fun c4 => ?_) (fun c4 => ?_)
        · skip
          refine p_aload 162 rfl rfl rfl ?_
          refine p_iload 163 rfl rfl rfl ?_
          refine p_putfi (j := 59) 166 rfl rfl rfl (fun z => absurd z (by decide)) (tg_66 S3) rfl ?_
          refine p_nmh (fun y5 e5 => ?_)
          have S5 : Shape y5 := by rw [e5]; exact S3.svF ff_66_59 _
          refine p_const 167 rfl rfl ?_
          refine p_istore (ls' := [some (.inr (.inr 66)), some (.inl (kb h)), some (.inl m), some (.inl 1), some (.inl 0)]) 169 rfl rfl (Nat.le_of_ble_eq_true rfl) rfl ?_
          -- leaf 1: loop 169 [some (.inr (.inr 66)), some (.inl (kb h)), some (.inl m), some (.inl 1), some (.inl 0)] st=[] h=y5 e5,e3
          have M : Msg h T n m D := Or.inr ⟨kn, Or.inl ⟨D0, by omega, by omega, hm⟩⟩
          refine J169 m.toNat 0 1 m D _ (by omega) (Int.le_refl 0) hm m12 (by omega) M S5 (by rw [e5, e3]; exact (k1.sv rfl _).sv rfl _) (by rw [e5, sv_nf (by decide), e3, sv_nf (by decide)]; exact t0) (by rw [e5, sv_eq]) (fun j w hw => by rw [e5, sv_ne (by decide), e3, sv_ne (by decide)]; exact n8 j w hw) (fun i i0 i1 => by omega)
        · skip
          refine p_const 160 rfl rfl ?_
          refine p_iret rfl rfl ?_
          -- leaf 2: answer [.inl (-1)] h=y3 e3
          refine K (-1) _ ⟨by rw [e3]; exact k1.sv rfl _, by rw [e3, sv_nf (by decide)]; exact t0, [], Or.inr ⟨kn, Or.inr ⟨rfl, rfl, fun l' hl hb => ?_⟩⟩, Or.inl ⟨rfl, by rw [e3, sv_nf (by decide)]; exact g59, fun i => by rw [e3, sv_ne (by decide)]; exact w7 i⟩⟩ S3
          obtain ⟨l2, e2, s2⟩ := (iff l').1 hl
          have z := (Scn.end_ O (by by_cases z : e < n; have := O.2.1 e p0 z; omega; omega) p0).1 s2
          rw [e2, z, List.append_nil] at hb
          omega
      · skip
        refine p_aload 62 rfl rfl rfl ?_
        refine p_callv (le := [some (.inr (.inr 66))]) (as := [.inr (.inr 66)]) (rest := []) 65 0 0 0 0 rfl rfl (Nat.le_of_ble_eq_true rfl) rfl (Nat.le_of_ble_eq_true rfl) rfl rfl (Nat.le_of_ble_eq_true rfl) rfl (Nat.le_of_ble_eq_true rfl) rfl (Nat.le_refl _) (Nat.le_refl _) rfl rfl (tg_66 S1) ?_
        refine m_look S1 O X1 g2 p0 pn (fun r6 y6 p6 S6 => ?_)
        show Wp (d + 4) 0 0 M_X12_message 65 [some (.inr (.inr 66)), some (.inl (kb h)), some (.inl m), some (.inl 1), none] [.inl r6] y6 _
        obtain ⟨kl, e', hx', _, g2, rl2⟩ := p6
        have ee : e' = e := hx'.same ⟨Int.le_refl e, fun i i0 i1 => by omega, hx.2.2⟩
        rw [ee] at g2 rl2
        have X1 : TxM y6 T n := X1.kp (kl.1 66 3 rfl) (fun i => kl.1 67 i rfl)
        have k1 := k1.trans (kl.wide lukA_mmA)
        have t0 : gv y6 66 1 = 0 := (kl.1 66 1 rfl).trans t0
        have g59 : gv y6 66 59 = gv h 66 59 := (kl.1 66 59 rfl).trans g59
        have g5 : gv y6 66 5 = 0 := (kl.1 66 5 rfl).trans g5
        have g4 : ¬ isLet (T (gv y6 66 4)) := by rw [kl.1 66 4 rfl]; exact g4
        have w7 : ∀ i, gv y6 107 i = gv h 107 i := fun i => (kl.1 107 i rfl).trans (w7 i)
        have n8 : ∀ (j : Nat) w, D[j]? = some w → gv y6 108 j = w := fun j w hw => (kl.1 108 j rfl).trans (n8 j w hw)
        have elt : e < n := (O.lt (i := e) (by omega)).2
        obtain ⟨f, hf, fn⟩ := ends_ex (P := isLet) (p := e) O pn (fun z => by omega) rfl
        have sw := fun l => Scn.word (ok := okW h (kb h)) (l := l) elt hx.2.2 hf
        refine p_calls (le := [some (.inl r6)]) (as := [.inl r6]) (rest := []) 68 0 0 0 0 rfl rfl (Nat.le_of_ble_eq_true rfl) rfl (Nat.le_of_ble_eq_true rfl) rfl rfl (Nat.le_of_ble_eq_true rfl) rfl (Nat.le_of_ble_eq_true rfl) rfl (Nat.le_refl _) (Nat.le_refl _) rfl rfl ?_
        refine p_iload 1 rfl rfl rfl ?_
        refine p_const 3 rfl rfl ?_
        refine p_ic_lt 6 16 rfl rfl rfl (fun c7 => ?_) (fun c7 => ?_)
        · skip
          refine p_const 17 rfl rfl ?_
          refine p_zret rfl rfl (by decide) ?_
          show Wp (d + 4) 0 0 M_X12_message 68 [some (.inr (.inr 66)), some (.inl (kb h)), some (.inl m), some (.inl 1), none] [.inl 0] y6 _
          refine p_if_eq_t 92 rfl rfl (by decide) ?_
          refine p_const 93 rfl rfl ?_
          refine p_istore (ls' := [some (.inr (.inr 66)), some (.inl (kb h)), some (.inl m), some (.inl 0), none]) 94 rfl rfl (Nat.le_of_ble_eq_true rfl) rfl ?_
          refine p_iload 95 rfl rfl rfl ?_
          refine p_if_ne_f 98 rfl rfl (by decide) ?_
          refine p_goto 49 rfl rfl ?_
          -- leaf 3: loop 49 [some (.inr (.inr 66)), some (.inl (kb h)), some (.inl m), some (.inl 0), none] st=[] h=y6 
          refine bad e m D _ m kn hm iff (fun l' hl hb => ?_) S6 k1 t0 g59 w7
          obtain ⟨_, _, _, y1, _⟩ := (sw l').1 hl
          omega
        · skip
          refine p_iload 7 rfl rfl rfl ?_
          refine p_const 9 rfl rfl ?_
          refine p_ic_gt 12 16 rfl rfl rfl (fun c8 => ?_) (fun c8 => ?_)
          · skip
            refine p_const 17 rfl rfl ?_
            refine p_zret rfl rfl (by decide) ?_
            show Wp (d + 4) 0 0 M_X12_message 68 [some (.inr (.inr 66)), some (.inl (kb h)), some (.inl m), some (.inl 1), none] [.inl 0] y6 _
            refine p_if_eq_t 92 rfl rfl (by decide) ?_
            refine p_const 93 rfl rfl ?_
            refine p_istore (ls' := [some (.inr (.inr 66)), some (.inl (kb h)), some (.inl m), some (.inl 0), none]) 94 rfl rfl (Nat.le_of_ble_eq_true rfl) rfl ?_
            refine p_iload 95 rfl rfl rfl ?_
            refine p_if_ne_f 98 rfl rfl (by decide) ?_
            refine p_goto 49 rfl rfl ?_
            -- leaf 4: loop 49 [some (.inr (.inr 66)), some (.inl (kb h)), some (.inl m), some (.inl 0), none] st=[] h=y6 
            refine bad e m D _ m kn hm iff (fun l' hl hb => ?_) S6 k1 t0 g59 w7
            obtain ⟨_, _, _, y1, _⟩ := (sw l').1 hl
            omega
          · skip
            refine p_const 13 rfl rfl ?_
            refine p_goto 17 rfl rfl ?_
            refine p_zret rfl rfl (by decide) ?_
            show Wp (d + 4) 0 0 M_X12_message 68 [some (.inr (.inr 66)), some (.inl (kb h)), some (.inl m), some (.inl 1), none] [.inl 1] y6 _
            refine p_if_eq_f 71 rfl rfl (by decide) ?_
            refine p_aload 72 rfl rfl rfl ?_
            refine p_getfi (j := 2) (z := gv y6 66 2) 75 rfl rfl rfl (tg_66 S6) rfl rfl ?_
            refine p_aload 76 rfl rfl rfl ?_
            refine p_getfi (j := 4) (z := gv y6 66 4) 79 rfl rfl rfl (tg_66 S6) rfl rfl ?_
            refine p_ic_eq 82 92 rfl rfl rfl (fun c9 => ?_) (fun c9 => ?_)
            · skip
              refine p_const 93 rfl rfl ?_
              refine p_istore (ls' := [some (.inr (.inr 66)), some (.inl (kb h)), some (.inl m), some (.inl 0), none]) 94 rfl rfl (Nat.le_of_ble_eq_true rfl) rfl ?_
              refine p_iload 95 rfl rfl rfl ?_
              refine p_if_ne_f 98 rfl rfl (by decide) ?_
              refine p_goto 49 rfl rfl ?_
              -- leaf 5: loop 49 [some (.inr (.inr 66)), some (.inl (kb h)), some (.inl m), some (.inl 0), none] st=[] h=y6 
              exact absurd (show isLet (T (gv y6 66 4)) by rw [← c9, g2]; exact ⟨by omega, by omega⟩) g4
            · skip
              refine p_iload 83 rfl rfl rfl ?_
              refine p_const 85 rfl rfl ?_
              refine p_ic_ge 88 92 rfl rfl rfl (fun c10 => ?_) (fun c10 => ?_)
              · skip
                refine p_const 93 rfl rfl ?_
                refine p_istore (ls' := [some (.inr (.inr 66)), some (.inl (kb h)), some (.inl m), some (.inl 0), none]) 94 rfl rfl (Nat.le_of_ble_eq_true rfl) rfl ?_
                refine p_iload 95 rfl rfl rfl ?_
                refine p_if_ne_f 98 rfl rfl (by decide) ?_
                refine p_goto 49 rfl rfl ?_
                -- leaf 6: loop 49 [some (.inr (.inr 66)), some (.inl (kb h)), some (.inl m), some (.inl 0), none] st=[] h=y6 
                refine bad e m D _ m kn hm iff (fun l' hl hb => ?_) S6 k1 t0 g59 w7
                obtain ⟨w, l3, y0, _⟩ := (sw l').1 hl
                rw [y0, List.length_cons] at hb
                omega
              · skip
                refine p_const 89 rfl rfl ?_
                refine p_goto 93 rfl rfl ?_
                refine p_istore (ls' := [some (.inr (.inr 66)), some (.inl (kb h)), some (.inl m), some (.inl 1), none]) 94 rfl rfl (Nat.le_of_ble_eq_true rfl) rfl ?_
                refine p_iload 95 rfl rfl rfl ?_
                refine p_if_ne_t 101 rfl rfl (by decide) ?_
                refine p_aload 102 rfl rfl rfl ?_
                refine p_getfr (j := 61) (z := 108) 105 rfl rfl rfl (tg_66 S6) rfl (fi_66_61 S6) ?_
                refine p_iload 106 rfl rfl rfl ?_
                refine p_aload 107 rfl rfl rfl ?_
                refine p_const 109 rfl rfl ?_
                refine p_callv (le := [some (.inr (.inr 66)), some (.inl 6), none, none, none]) (as := [.inr (.inr 66), .inl 6]) (rest := [.inl m, .inr (.inr 108)]) 112 0 0 0 0 rfl rfl (Nat.le_of_ble_eq_true rfl) rfl (Nat.le_of_ble_eq_true rfl) rfl rfl (Nat.le_of_ble_eq_true rfl) rfl (Nat.le_of_ble_eq_true rfl) rfl (Nat.le_refl _) (Nat.le_refl _) rfl rfl (tg_66 S6) ?_
                refine m_letters S6 6 O X1 g2 g5 p0 pn (by decide) (by decide) (fun r11 y11 p11 S11 => ?_)
                show Wp (d + 4) 0 0 M_X12_message 112 [some (.inr (.inr 66)), some (.inl (kb h)), some (.inl m), some (.inl 1), none] [.inr (.inl r11), .inl m, .inr (.inr 108)] y11 _
                refine p_last (w := 12) 113 rfl rfl (by decide) (tg_108 S11) (ln_108 S11) (by omega) (by omega) ?_
                refine p_nmh (fun y12 e12 => ?_)
                have S12 : Shape y12 := by rw [e12]; exact S11.svA fa_108 _ _
                obtain ⟨kl2, f', hf', _, lr⟩ := p11
                have ff : f' = f := hf'.same hf
                rw [ff] at lr
                have g12 : ∀ a i, a ≠ 108 → gv y12 a i = gv y11 a i := fun a i z => by rw [e12, sv_ne z]
                have k2 := k1.trans (kl2.wide lsrA_mmA)
                have k3 : Keep mmA h y12 := by rw [e12]; exact k2.sv rfl _
                have t2 : gv y12 66 1 = 0 := (g12 66 1 (by decide)).trans ((kl2.1 66 1 rfl).trans t0)
                have g592 : gv y12 66 59 = gv h 66 59 := (g12 66 59 (by decide)).trans ((kl2.1 66 59 rfl).trans g59)
                have w72 : ∀ i, gv y12 107 i = gv h 107 i := fun i => (g12 107 i (by decide)).trans ((kl2.1 107 i rfl).trans (w7 i))
                refine p_aload 114 rfl rfl rfl ?_
                refine p_getfi (j := 5) (z := gv y11 66 5) 117 rfl rfl rfl (tg_66 S12) rfl (by rw [e12, sv_ne (by decide)]) ?_
                refine p_if_ne 120 138 rfl rfl rfl (fun c13 => ?_) (fun c13 => ?_)
                · skip
                  refine p_const 139 rfl rfl ?_
                  refine p_istore (ls' := [some (.inr (.inr 66)), some (.inl (kb h)), some (.inl m), some (.inl 0), none]) 140 rfl rfl (Nat.le_of_ble_eq_true rfl) rfl ?_
                  refine p_iinc (y := m + 1) (ls' := [some (.inr (.inr 66)), some (.inl (kb h)), some (.inl (m + 1)), some (.inl 0), none]) 143 rfl rfl rfl (w32_id ⟨(by omega), (by omega)⟩) rfl ?_
                  refine p_goto 49 rfl rfl ?_
                  -- leaf 7: loop 49 [some (.inr (.inr 66)), some (.inl (kb h)), some (.inl (m + 1)), some (.inl 0), none] st=[] h=y12 e12
                  refine bad e m D _ _ kn hm iff (fun l' hl hb => ?_) S12 k3 t2 g592 w72
                  obtain ⟨_, _, _, _, y2, _⟩ := (sw l').1 hl
                  rcases lr with ⟨z, _, _, _, z5, _⟩ | ⟨z, _⟩
                  · exact c13 z5
                  · omega
                · skip
                  refine p_aload 121 rfl rfl rfl ?_
                  refine p_iload 122 rfl rfl rfl ?_
                  refine p_aload 123 rfl rfl rfl ?_
                  refine p_getfr (j := 61) (z := 108) 126 rfl rfl rfl (tg_66 S12) rfl (fi_66_61 S12) ?_
                  refine p_iload 127 rfl rfl rfl ?_
                  obtain ⟨kbz1, kbz2, Rn⟩ : 0 ≤ kb h ∧ kb h ≤ 200 ∧ BkR h (xb h) (kb h) := by
                    rcases A.kb with ⟨z, _⟩ | ⟨z1, z2, _, z3⟩
                    · exact absurd z kn
                    · exact ⟨by omega, z2, z3⟩
                  have kB := k3.wide mmA_bkB
                  have e79 : gv y12 79 (kb h) = gv h 79 (kb h) := kB.1 79 _ rfl
                  have rn0 : 0 ≤ gv y12 79 (kb h) := by rw [e79]; exact Rn.1
                  have rn40 : gv y12 79 (kb h) ≤ 40 := by rw [e79]; exact Rn.2.1
                  have okc : ∀ w, okW y12 (kb h) w ↔ okW h (kb h) w := fun w => by unfold okW; rw [(bk_congr kB (kb h)).1, e79]
                  obtain ⟨l6, rv, at2, en2, b2, _⟩ : f - e ≤ 6 ∧ r11 = wv T e (f - e).toNat ∧ gv y11 66 2 = f ∧ gv y11 66 4 = f ∧ gv y11 66 5 = 0 ∧ _ := by
                    rcases lr with z | z
                    · exact z
                    · omega
                  refine p_lald (w := 12) (z := r11) 128 rfl rfl (tg_108 S12) (ln_108 S12) (by omega) (by omega) (by rw [e12]; exact sv_eq _ _ _ _) ?_
                  refine p_callv (le := [some (.inr (.inr 66)), some (.inl (kb h)), some (.inr (.inl r11)), none, none]) (as := [.inr (.inr 66), .inl (kb h), .inr (.inl r11)]) (rest := []) 131 0 0 0 0 rfl rfl (Nat.le_of_ble_eq_true rfl) rfl (Nat.le_of_ble_eq_true rfl) rfl rfl (Nat.le_of_ble_eq_true rfl) rfl (Nat.le_of_ble_eq_true rfl) rfl (Nat.le_refl _) (Nat.le_refl _) rfl rfl (tg_66 S12) ?_
                  refine m_isName S12 (kb h) r11 kbz1 kbz2 rn0 rn40 (fun c14 => ?_) (fun c14 => ?_)
                  · show Wp (d + 4) 0 0 M_X12_message 131 [some (.inr (.inr 66)), some (.inl (kb h)), some (.inl m), some (.inl 1), none] [.inl 1] y12 _
                    refine p_if_eq_f 134 rfl rfl (by decide) ?_
                    refine p_const 135 rfl rfl ?_
                    refine p_goto 139 rfl rfl ?_
                    refine p_istore (ls' := [some (.inr (.inr 66)), some (.inl (kb h)), some (.inl m), some (.inl 1), none]) 140 rfl rfl (Nat.le_of_ble_eq_true rfl) rfl ?_
                    refine p_iinc (y := m + 1) (ls' := [some (.inr (.inr 66)), some (.inl (kb h)), some (.inl (m + 1)), some (.inl 1), none]) 143 rfl rfl rfl (w32_id ⟨(by omega), (by omega)⟩) rfl ?_
                    refine p_goto 49 rfl rfl ?_
                    -- leaf 8: loop 49 [some (.inr (.inr 66)), some (.inl (kb h)), some (.inl (m + 1)), some (.inl 1), none] st=[] h=y12 e12
                    have ef : e < f := by
                      have := hf.1
                      by_cases z : f = e
                      · have hf2 := hf.2.2
                        rw [z] at hf2; exact absurd ⟨by omega, by omega⟩ hf2
                      · omega
                    refine ih f (m + 1) (D ++ [r11]) _ (by have := hx.1; omega) (by omega) fn kn (by rw [List.length_append]; show m + 1 = ((D.length + 1 : Nat) : Int); omega) (by omega) (fun l => ?_) S12 k3 (X1.kp ((g12 66 3 (by decide)).trans (kl2.1 66 3 rfl)) (fun i => (g12 67 i (by decide)).trans (kl2.1 67 i rfl))) t2 g592 w72 ((g12 66 2 (by decide)).trans at2) ((g12 66 5 (by decide)).trans b2) (by rw [g12 66 4 (by decide), en2]; exact hf.2.2) (fun j w hw => ?_)
                    · rw [iff l]
                      constructor
                      · rintro ⟨l', e, z⟩
                        obtain ⟨w, l3, y0, y1, y2, y3, y4, y5⟩ := (sw l').1 z
                        exact ⟨l3, by rw [e, y0, y3, rv, List.append_assoc]; rfl, y5⟩
                      · rintro ⟨l', e, z⟩
                        exact ⟨r11 :: l', by rw [e, List.append_assoc]; rfl, (sw _).2 ⟨r11, l', rfl, ⟨by omega, by omega⟩, l6, rv, (okc _).1 c14, z⟩⟩
                    · rw [e12]
                      rcases snoc_get hw with ⟨j1, j2⟩ | ⟨j1, j2⟩
                      · rw [sv_nf (by omega)]; exact (kl2.1 108 j rfl).trans (n8 j w j2)
                      · rw [j2, j1, ← hm, sv_eq]
                  · show Wp (d + 4) 0 0 M_X12_message 131 [some (.inr (.inr 66)), some (.inl (kb h)), some (.inl m), some (.inl 1), none] [.inl 0] y12 _
                    refine p_if_eq_t 138 rfl rfl (by decide) ?_
                    refine p_const 139 rfl rfl ?_
                    refine p_istore (ls' := [some (.inr (.inr 66)), some (.inl (kb h)), some (.inl m), some (.inl 0), none]) 140 rfl rfl (Nat.le_of_ble_eq_true rfl) rfl ?_
                    refine p_iinc (y := m + 1) (ls' := [some (.inr (.inr 66)), some (.inl (kb h)), some (.inl (m + 1)), some (.inl 0), none]) 143 rfl rfl rfl (w32_id ⟨(by omega), (by omega)⟩) rfl ?_
                    refine p_goto 49 rfl rfl ?_
                    -- leaf 9: loop 49 [some (.inr (.inr 66)), some (.inl (kb h)), some (.inl (m + 1)), some (.inl 0), none] st=[] h=y12 e12
                    refine bad e m D _ _ kn hm iff (fun l' hl hb => ?_) S12 k3 t2 g592 w72
                    obtain ⟨_, _, _, _, _, y3, y4, _⟩ := (sw l').1 hl
                    rw [y3, ← rv] at y4
                    exact c14 ((okc _).2 y4)
  refine p_aload 1 rfl rfl rfl ?_
  refine p_aload 2 rfl rfl rfl ?_
  refine p_getfi (j := 1) (z := gv h 66 1) 5 rfl rfl rfl (tg_66 S) rfl rfl ?_
  refine p_putfi (j := 3) 8 rfl rfl rfl (fun z => absurd z (by decide)) (tg_66 S) rfl ?_
  refine p_nmh (fun y1 e1 => ?_)
  have S1 : Shape y1 := by rw [e1]; exact S.svF ff_66_3 _
  have kp1 : Keep mmA h y1 := by rw [e1]; exact (Keep.rf mmA _).sv rfl _
  refine p_aload 9 rfl rfl rfl ?_
  refine p_const 10 rfl rfl ?_
  refine p_putfi (j := 1) 13 rfl rfl rfl (fun z => absurd z (by decide)) (tg_66 S1) rfl ?_
  refine p_nmh (fun y2 e2 => ?_)
  have S2 : Shape y2 := by rw [e2]; exact S1.svF ff_66_1 _
  have kp2 : Keep mmA h y2 := by rw [e2]; exact kp1.sv rfl _
  refine p_aload 14 rfl rfl rfl ?_
  refine p_const 15 rfl rfl ?_
  refine p_putfi (j := 2) 18 rfl rfl rfl (fun z => absurd z (by decide)) (tg_66 S2) rfl ?_
  refine p_nmh (fun y3 e3 => ?_)
  have S3 : Shape y3 := by rw [e3]; exact S2.svF ff_66_2 _
  have kp3 : Keep mmA h y3 := by rw [e3]; exact kp2.sv rfl _
  refine p_aload 19 rfl rfl rfl ?_
  refine p_const 20 rfl rfl ?_
  refine p_putfi (j := 4) 23 rfl rfl rfl (fun z => absurd z (by decide)) (tg_66 S3) rfl ?_
  refine p_nmh (fun y4 e4 => ?_)
  have S4 : Shape y4 := by rw [e4]; exact S3.svF ff_66_4 _
  have kp4 : Keep mmA h y4 := by rw [e4]; exact kp3.sv rfl _
  refine p_aload 24 rfl rfl rfl ?_
  refine p_const 25 rfl rfl ?_
  refine p_putfi (j := 5) 28 rfl rfl rfl (fun z => absurd z (by decide)) (tg_66 S4) rfl ?_
  refine p_nmh (fun y5 e5 => ?_)
  have S5 : Shape y5 := by rw [e5]; exact S4.svF ff_66_5 _
  have kp5 : Keep mmA h y5 := by rw [e5]; exact kp4.sv rfl _
  refine p_aload 29 rfl rfl rfl ?_
  have A0 := A.kp (kp5.wide mmA_bkB)
  have nwi := nw_in A0
  refine p_aload 30 rfl rfl rfl ?_
  refine p_callv (le := [some (.inr (.inr 66))]) (as := [.inr (.inr 66)]) (rest := [.inr (.inr 66)]) 33 0 0 0 0 rfl rfl (Nat.le_of_ble_eq_true rfl) rfl (Nat.le_of_ble_eq_true rfl) rfl rfl (Nat.le_of_ble_eq_true rfl) rfl (Nat.le_of_ble_eq_true rfl) rfl (Nat.le_refl _) (Nat.le_refl _) rfl rfl (tg_66 S5) ?_
  refine m_now S5  (A0) ?_
  show Wp (d + 4) 0 0 M_X12_message 33 [some (.inr (.inr 66)), none, none, none, none] [.inl (nw y5), .inr (.inr 66)] y5 _
  refine p_callv (le := [some (.inr (.inr 66)), some (.inl (nw y5)), none, none]) (as := [.inr (.inr 66), .inl (nw y5)]) (rest := []) 36 0 0 0 0 rfl rfl (Nat.le_of_ble_eq_true rfl) rfl (Nat.le_of_ble_eq_true rfl) rfl rfl (Nat.le_of_ble_eq_true rfl) rfl (Nat.le_of_ble_eq_true rfl) rfl (Nat.le_refl _) (Nat.le_refl _) rfl rfl (tg_66 S5) ?_
  refine m_bookAt S5 (nw y5) A0 (by omega) (by omega) ?_
  show Wp (d + 4) 0 0 M_X12_message 36 [some (.inr (.inr 66)), none, none, none, none] [.inl (kb y5)] y5 _
  refine p_istore (ls' := [some (.inr (.inr 66)), some (.inl (kb y5)), none, none, none]) 37 rfl rfl (Nat.le_of_ble_eq_true rfl) rfl ?_
  refine p_const 38 rfl rfl ?_
  refine p_istore (ls' := [some (.inr (.inr 66)), some (.inl (kb y5)), some (.inl 0), none, none]) 39 rfl rfl (Nat.le_of_ble_eq_true rfl) rfl ?_
  have ek := kb_congr (kp5.wide mmA_bkB)
  have g1 : gv y5 66 1 = 0 := by rw [e5, sv_nf (by decide), e4, sv_nf (by decide), e3, sv_nf (by decide), e2, sv_eq]
  have nf : ∀ i, (i < 1 ∨ 6 ≤ i) → gv y5 66 i = gv h 66 i := fun i z => by rw [e5, sv_nf (by omega), e4, sv_nf (by omega), e3, sv_nf (by omega), e2, sv_nf (by omega), e1, sv_nf (by omega)]
  have nf2 : ∀ a i, a ≠ 66 → gv y5 a i = gv h a i := fun a i z => by rw [e5, sv_ne z, e4, sv_ne z, e3, sv_ne z, e2, sv_ne z, e1, sv_ne z]
  refine p_iload 40 rfl rfl rfl ?_
  refine p_if_le 43 47 rfl rfl rfl (fun c7 => ?_) (fun c7 => ?_)
  · skip
    refine p_const 48 rfl rfl ?_
    refine p_istore (ls' := [some (.inr (.inr 66)), some (.inl (kb y5)), some (.inl 0), some (.inl 0), none]) 49 rfl rfl (Nat.le_of_ble_eq_true rfl) rfl ?_
    -- leaf 1: loop 49 [some (.inr (.inr 66)), some (.inl (kb y5)), some (.inl 0), some (.inl 0), none] st=[] h=y5 e5,e4,e3,e2,e1 kp5
    rw [ek] at c7
    rw [ek]
    refine J49f 0 _ (Or.inl ⟨?_, rfl, rfl⟩) S5 kp5 g1 (nf 59 (by decide)) (fun i => nf2 107 i (by decide))
    rcases A.kb with ⟨z, _⟩ | ⟨z, _⟩ <;> omega
  · skip
    refine p_const 44 rfl rfl ?_
    refine p_goto 48 rfl rfl ?_
    refine p_istore (ls' := [some (.inr (.inr 66)), some (.inl (kb y5)), some (.inl 0), some (.inl 1), none]) 49 rfl rfl (Nat.le_of_ble_eq_true rfl) rfl ?_
    -- leaf 2: loop 49 [some (.inr (.inr 66)), some (.inl (kb y5)), some (.inl 0), some (.inl 1), none] st=[] h=y5 e5,e4,e3,e2,e1 kp5
    rw [ek] at c7
    rw [ek]
    refine J49 (n + 1).toNat 0 0 [] _ (by omega) (Int.le_refl 0) (by omega) (by omega) rfl (by decide) (fun l => ⟨fun z => ⟨l, rfl, z⟩, fun ⟨l', e, z⟩ => by rw [e]; exact z⟩) S5 kp5 ⟨?_, fun i i0 i1 => by rw [nf2 67 i (by decide)]; exact hT i i0 i1⟩ g1 (nf 59 (by decide)) (fun i => nf2 107 i (by decide)) ?_ ?_ ?_ (fun j w hw => by cases hw)
    · rw [e5, sv_nf (by decide), e4, sv_nf (by decide), e3, sv_nf (by decide), e2, sv_nf (by decide), e1, sv_eq]; exact hn
    · rw [e5, sv_nf (by decide), e4, sv_nf (by decide), e3, sv_eq]
    · rw [e5, sv_eq]
    · rw [e5, sv_nf (by decide), e4, sv_eq]
      intro z
      have := O.2.2 (-1) (by omega)
      omega

