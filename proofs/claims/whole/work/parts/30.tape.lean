/-! THE TAPE -/
theorem ok_X9_at {d : Nat} {h : PH} {q : PQ} (S : Shape h) (place : Int)
    (K1 : 0 ≤ place → place < gv h 3 1 → place < 700 → q (some (.inl (gv h 4 place % 256))) h) (K2 : ¬ (0 ≤ place ∧ place < gv h 3 1 ∧ place < 700) → q (some (.inl (-1))) h) : Wp (d + 1) 0 0 M_X9_at 0 [some (.inr (.inr 3)), some (.inl place)] [] h q := by
  refine p_iload 1 rfl rfl rfl ?_
  refine p_if_lt 4 34 rfl rfl rfl (fun c1 => ?_) (fun c1 => ?_)
  · skip
    refine p_const 35 rfl rfl ?_
    refine p_iret rfl rfl ?_
    -- leaf 1: answer [.inl (-1)] h=h
    exact K2 (by omega)
  · skip
    refine p_iload 5 rfl rfl rfl ?_
    refine p_aload 6 rfl rfl rfl ?_
    refine p_getfi (j := 1) (z := gv h 3 1) 9 rfl rfl rfl (tg_3 S) rfl rfl ?_
    refine p_ic_ge 12 34 rfl rfl rfl (fun c2 => ?_) (fun c2 => ?_)
    · skip
      refine p_const 35 rfl rfl ?_
      refine p_iret rfl rfl ?_
      -- leaf 2: answer [.inl (-1)] h=h
      exact K2 (by omega)
    · skip
      refine p_iload 13 rfl rfl rfl ?_
      refine p_aload 14 rfl rfl rfl ?_
      refine p_getfr (j := 0) (z := 4) 17 rfl rfl rfl (tg_3 S) rfl (fi_3_0 S) ?_
      refine p_alen (w := 700) 18 rfl rfl (by rw [tg_4 S]; decide) (ln_4 S) ?_
      refine p_ic_ge 21 34 rfl rfl rfl (fun c3 => ?_) (fun c3 => ?_)
      · skip
        refine p_const 35 rfl rfl ?_
        refine p_iret rfl rfl ?_
        -- leaf 3: answer [.inl (-1)] h=h
        exact K2 (by omega)
      · skip
        refine p_aload 22 rfl rfl rfl ?_
        refine p_getfr (j := 0) (z := 4) 25 rfl rfl rfl (tg_3 S) rfl (fi_3_0 S) ?_
        refine p_iload 26 rfl rfl rfl ?_
        refine p_bald (w := 700) (z := gv h 4 place) 27 rfl rfl (Or.inl (tg_4 S)) (ln_4 S) (by omega) (by omega) rfl ?_
        refine p_const 30 rfl rfl ?_
        refine p_iand (z := (gv h 4 place) % 256) 31 rfl rfl (mask32 8 rfl (by decide)) ?_
        refine p_goto 35 rfl rfl ?_
        refine p_iret rfl rfl ?_
        -- leaf 4: answer [.inl ((gv h 4 place) % 256)] h=h
        exact K1 (by omega) (by omega) (by omega)
/-- what a call leaves alone: all places but those of A -/
def Keep (A : Int → Int → Bool) (h h1 : PH) : Prop := (∀ a i, A a i = false → gv h1 a i = gv h a i) ∧ nx h1 = nx h ∧ (∀ a, tg h1 a = tg h a) ∧ (∀ a, ln h1 a = ln h a)
theorem Keep.rf (A : Int → Int → Bool) (h : PH) : Keep A h h := ⟨fun _ _ _ => rfl, rfl, fun _ => rfl, fun _ => rfl⟩
theorem Keep.trans {A : Int → Int → Bool} {h h1 h2 : PH} (k1 : Keep A h h1) (k2 : Keep A h1 h2) : Keep A h h2 :=
  ⟨fun a i ha => (k2.1 a i ha).trans (k1.1 a i ha), k2.2.1.trans k1.2.1, fun a => (k2.2.2.1 a).trans (k1.2.2.1 a), fun a => (k2.2.2.2 a).trans (k1.2.2.2 a)⟩
theorem Keep.sv {A : Int → Int → Bool} {h h1 : PH} (k : Keep A h h1) {a i : Int} (ha : A a i = true) (v : Int) : Keep A h (sv h1 a i v) :=
  ⟨fun b j hb => by
    rw [gv_sv]
    by_cases z : b = a ∧ j = i
    · rw [z.1, z.2, ha] at hb; cases hb
    · rw [if_neg z]; exact k.1 b j hb, k.2.1, k.2.2.1, k.2.2.2⟩
theorem Keep.wide {A B : Int → Int → Bool} {h h1 : PH} (k : Keep A h h1) (hAB : ∀ a i, B a i = false → A a i = false) : Keep B h h1 := ⟨fun a i ha => k.1 a i (hAB a i ha), k.2⟩
/-- byte j of a number, the highest first -/
def byt (n : Int) (j : Int) : Int := n / 2 ^ (24 - 8 * j).toNat % 256
theorem us_byt (n : Int) (k : Nat) (hk : k = 24 ∨ k = 16 ∨ k = 8 ∨ k = 0) : w8 (us32 n (k : Int)) % 256 = n / 2 ^ k % 256 := by
  unfold w8 us32 w32
  rw [Int.toNat_natCast]
  have e1 : ∀ x : Int, Int.bmod x 256 % 256 = x % 256 := fun x => Int.bmod_emod
  rw [e1]
  have e2 : ∀ x : Int, Int.bmod x 4294967296 % 256 = x % 256 := fun x => by
    have h1 : Int.bmod x 4294967296 % 4294967296 = x % 4294967296 := Int.bmod_emod
    omega
  rw [e2]
  rcases hk with rfl | rfl | rfl | rfl
  · show n % 4294967296 / 16777216 % 256 = n / 16777216 % 256; omega
  · show n % 4294967296 / 65536 % 256 = n / 65536 % 256; omega
  · show n % 4294967296 / 256 % 256 = n / 256 % 256; omega
  · show n % 4294967296 / 1 % 256 = n / 1 % 256; omega
def putA (a i : Int) : Bool := (a == 3 && i == 1) || a == 4
theorem ok_X9_put {d : Nat} {h : PH} {q : PQ} (S : Shape h) (n : Int) (h0 : 0 ≤ gv h 3 1) (h1 : gv h 3 1 ≤ 696)
    (K : ∀ h', (Keep putA h h' ∧ gv h' 3 1 = gv h 3 1 + 4 ∧ (∀ i, i < gv h 3 1 → gv h' 4 i = gv h 4 i) ∧ ∀ j, 0 ≤ j → j < 4 → gv h' 4 (gv h 3 1 + j) % 256 = byt n j) → Shape h' → q none h') : Wp (d + 1) 0 0 M_X9_put 0 [some (.inr (.inr 3)), some (.inl n), none] [] h q := by
  refine p_const 2 rfl rfl ?_
  refine p_istore (ls' := [some (.inr (.inr 3)), some (.inl n), some (.inl 24)]) 3 rfl rfl (Nat.le_of_ble_eq_true rfl) rfl ?_
  refine p_iload 4 rfl rfl rfl ?_
  refine p_if_lt_f 7 rfl rfl (by decide) ?_
  refine p_aload 8 rfl rfl rfl ?_
  refine p_getfi (j := 1) (z := gv h 3 1) 11 rfl rfl rfl (tg_3 S) rfl rfl ?_
  refine p_aload 12 rfl rfl rfl ?_
  refine p_getfr (j := 0) (z := 4) 15 rfl rfl rfl (tg_3 S) rfl (fi_3_0 S) ?_
  refine p_alen (w := 700) 16 rfl rfl (by rw [tg_4 S]; decide) (ln_4 S) ?_
  refine p_ic_ge_f 19 rfl rfl (by omega) ?_
  refine p_aload 20 rfl rfl rfl ?_
  refine p_getfr (j := 0) (z := 4) 23 rfl rfl rfl (tg_3 S) rfl (fi_3_0 S) ?_
  refine p_aload 24 rfl rfl rfl ?_
  refine p_getfi (j := 1) (z := gv h 3 1) 27 rfl rfl rfl (tg_3 S) rfl rfl ?_
  refine p_iload 28 rfl rfl rfl ?_
  refine p_iload 29 rfl rfl rfl ?_
  refine p_iushr (z := us32 n 24) 30 rfl rfl (by decide) (by decide) rfl ?_
  refine p_i2b (z := w8 (us32 n 24)) 31 rfl rfl rfl ?_
  refine p_bast (w := 700) 32 rfl rfl (by decide) (tg_4 S) (ln_4 S) (by omega) (by omega) (w8_in _) ?_
  refine p_nmh (fun y1 e1 => ?_)
  have S1 : Shape y1 := by rw [e1]; exact S.svA fa_4 _ _
  refine p_aload 33 rfl rfl rfl ?_
  refine p_dup 34 rfl rfl nl_r ?_
  refine p_getfi (j := 1) (z := gv h 3 1) 37 rfl rfl rfl (tg_3 S1) rfl (by rw [e1, sv_ne (by decide)]) ?_
  refine p_const 38 rfl rfl ?_
  refine p_iadd (z := (gv h 3 1) + 1) 39 rfl rfl (w32_id ⟨(by omega), (by omega)⟩) ?_
  refine p_putfi (j := 1) 42 rfl rfl rfl (fun z => absurd z (by decide)) (tg_3 S1) rfl ?_
  refine p_nmh (fun y2 e2 => ?_)
  have S2 : Shape y2 := by rw [e2]; exact S1.svF ff_3_1 _
  refine p_iinc (y := 16) (ls' := [some (.inr (.inr 3)), some (.inl n), some (.inl 16)]) 45 rfl rfl rfl (by decide) rfl ?_
  refine p_goto 3 rfl rfl ?_
  refine p_iload 4 rfl rfl rfl ?_
  refine p_if_lt_f 7 rfl rfl (by decide) ?_
  refine p_aload 8 rfl rfl rfl ?_
  refine p_getfi (j := 1) (z := (gv h 3 1) + 1) 11 rfl rfl rfl (tg_3 S2) rfl (by rw [e2]; exact sv_eq _ _ _ _) ?_
  refine p_aload 12 rfl rfl rfl ?_
  refine p_getfr (j := 0) (z := 4) 15 rfl rfl rfl (tg_3 S2) rfl (fi_3_0 S2) ?_
  refine p_alen (w := 700) 16 rfl rfl (by rw [tg_4 S2]; decide) (ln_4 S2) ?_
  refine p_ic_ge_f 19 rfl rfl (by omega) ?_
  refine p_aload 20 rfl rfl rfl ?_
  refine p_getfr (j := 0) (z := 4) 23 rfl rfl rfl (tg_3 S2) rfl (fi_3_0 S2) ?_
  refine p_aload 24 rfl rfl rfl ?_
  refine p_getfi (j := 1) (z := (gv h 3 1) + 1) 27 rfl rfl rfl (tg_3 S2) rfl (by rw [e2]; exact sv_eq _ _ _ _) ?_
  refine p_iload 28 rfl rfl rfl ?_
  refine p_iload 29 rfl rfl rfl ?_
  refine p_iushr (z := us32 n 16) 30 rfl rfl (by decide) (by decide) rfl ?_
  refine p_i2b (z := w8 (us32 n 16)) 31 rfl rfl rfl ?_
  refine p_bast (w := 700) 32 rfl rfl (by decide) (tg_4 S2) (ln_4 S2) (by omega) (by omega) (w8_in _) ?_
  refine p_nmh (fun y3 e3 => ?_)
  have S3 : Shape y3 := by rw [e3]; exact S2.svA fa_4 _ _
  refine p_aload 33 rfl rfl rfl ?_
  refine p_dup 34 rfl rfl nl_r ?_
  refine p_getfi (j := 1) (z := (gv h 3 1) + 1) 37 rfl rfl rfl (tg_3 S3) rfl (by rw [e3, sv_ne (by decide)]; rw [e2]; exact sv_eq _ _ _ _) ?_
  refine p_const 38 rfl rfl ?_
  refine p_iadd (z := ((gv h 3 1) + 1) + 1) 39 rfl rfl (w32_id ⟨(by omega), (by omega)⟩) ?_
  refine p_putfi (j := 1) 42 rfl rfl rfl (fun z => absurd z (by decide)) (tg_3 S3) rfl ?_
  refine p_nmh (fun y4 e4 => ?_)
  have S4 : Shape y4 := by rw [e4]; exact S3.svF ff_3_1 _
  refine p_iinc (y := 8) (ls' := [some (.inr (.inr 3)), some (.inl n), some (.inl 8)]) 45 rfl rfl rfl (by decide) rfl ?_
  refine p_goto 3 rfl rfl ?_
  refine p_iload 4 rfl rfl rfl ?_
  refine p_if_lt_f 7 rfl rfl (by decide) ?_
  refine p_aload 8 rfl rfl rfl ?_
  refine p_getfi (j := 1) (z := ((gv h 3 1) + 1) + 1) 11 rfl rfl rfl (tg_3 S4) rfl (by rw [e4]; exact sv_eq _ _ _ _) ?_
  refine p_aload 12 rfl rfl rfl ?_
  refine p_getfr (j := 0) (z := 4) 15 rfl rfl rfl (tg_3 S4) rfl (fi_3_0 S4) ?_
  refine p_alen (w := 700) 16 rfl rfl (by rw [tg_4 S4]; decide) (ln_4 S4) ?_
  refine p_ic_ge_f 19 rfl rfl (by omega) ?_
  refine p_aload 20 rfl rfl rfl ?_
  refine p_getfr (j := 0) (z := 4) 23 rfl rfl rfl (tg_3 S4) rfl (fi_3_0 S4) ?_
  refine p_aload 24 rfl rfl rfl ?_
  refine p_getfi (j := 1) (z := ((gv h 3 1) + 1) + 1) 27 rfl rfl rfl (tg_3 S4) rfl (by rw [e4]; exact sv_eq _ _ _ _) ?_
  refine p_iload 28 rfl rfl rfl ?_
  refine p_iload 29 rfl rfl rfl ?_
  refine p_iushr (z := us32 n 8) 30 rfl rfl (by decide) (by decide) rfl ?_
  refine p_i2b (z := w8 (us32 n 8)) 31 rfl rfl rfl ?_
  refine p_bast (w := 700) 32 rfl rfl (by decide) (tg_4 S4) (ln_4 S4) (by omega) (by omega) (w8_in _) ?_
  refine p_nmh (fun y5 e5 => ?_)
  have S5 : Shape y5 := by rw [e5]; exact S4.svA fa_4 _ _
  refine p_aload 33 rfl rfl rfl ?_
  refine p_dup 34 rfl rfl nl_r ?_
  refine p_getfi (j := 1) (z := ((gv h 3 1) + 1) + 1) 37 rfl rfl rfl (tg_3 S5) rfl (by rw [e5, sv_ne (by decide)]; rw [e4]; exact sv_eq _ _ _ _) ?_
  refine p_const 38 rfl rfl ?_
  refine p_iadd (z := (((gv h 3 1) + 1) + 1) + 1) 39 rfl rfl (w32_id ⟨(by omega), (by omega)⟩) ?_
  refine p_putfi (j := 1) 42 rfl rfl rfl (fun z => absurd z (by decide)) (tg_3 S5) rfl ?_
  refine p_nmh (fun y6 e6 => ?_)
  have S6 : Shape y6 := by rw [e6]; exact S5.svF ff_3_1 _
  refine p_iinc (y := 0) (ls' := [some (.inr (.inr 3)), some (.inl n), some (.inl 0)]) 45 rfl rfl rfl (by decide) rfl ?_
  refine p_goto 3 rfl rfl ?_
  refine p_iload 4 rfl rfl rfl ?_
  refine p_if_lt_f 7 rfl rfl (by decide) ?_
  refine p_aload 8 rfl rfl rfl ?_
  refine p_getfi (j := 1) (z := (((gv h 3 1) + 1) + 1) + 1) 11 rfl rfl rfl (tg_3 S6) rfl (by rw [e6]; exact sv_eq _ _ _ _) ?_
  refine p_aload 12 rfl rfl rfl ?_
  refine p_getfr (j := 0) (z := 4) 15 rfl rfl rfl (tg_3 S6) rfl (fi_3_0 S6) ?_
  refine p_alen (w := 700) 16 rfl rfl (by rw [tg_4 S6]; decide) (ln_4 S6) ?_
  refine p_ic_ge_f 19 rfl rfl (by omega) ?_
  refine p_aload 20 rfl rfl rfl ?_
  refine p_getfr (j := 0) (z := 4) 23 rfl rfl rfl (tg_3 S6) rfl (fi_3_0 S6) ?_
  refine p_aload 24 rfl rfl rfl ?_
  refine p_getfi (j := 1) (z := (((gv h 3 1) + 1) + 1) + 1) 27 rfl rfl rfl (tg_3 S6) rfl (by rw [e6]; exact sv_eq _ _ _ _) ?_
  refine p_iload 28 rfl rfl rfl ?_
  refine p_iload 29 rfl rfl rfl ?_
  refine p_iushr (z := us32 n 0) 30 rfl rfl (by decide) (by decide) rfl ?_
  refine p_i2b (z := w8 (us32 n 0)) 31 rfl rfl rfl ?_
  refine p_bast (w := 700) 32 rfl rfl (by decide) (tg_4 S6) (ln_4 S6) (by omega) (by omega) (w8_in _) ?_
  refine p_nmh (fun y7 e7 => ?_)
  have S7 : Shape y7 := by rw [e7]; exact S6.svA fa_4 _ _
  refine p_aload 33 rfl rfl rfl ?_
  refine p_dup 34 rfl rfl nl_r ?_
  refine p_getfi (j := 1) (z := (((gv h 3 1) + 1) + 1) + 1) 37 rfl rfl rfl (tg_3 S7) rfl (by rw [e7, sv_ne (by decide)]; rw [e6]; exact sv_eq _ _ _ _) ?_
  refine p_const 38 rfl rfl ?_
  refine p_iadd (z := ((((gv h 3 1) + 1) + 1) + 1) + 1) 39 rfl rfl (w32_id ⟨(by omega), (by omega)⟩) ?_
  refine p_putfi (j := 1) 42 rfl rfl rfl (fun z => absurd z (by decide)) (tg_3 S7) rfl ?_
  refine p_nmh (fun y8 e8 => ?_)
  have S8 : Shape y8 := by rw [e8]; exact S7.svF ff_3_1 _
  refine p_iinc (y := (-8)) (ls' := [some (.inr (.inr 3)), some (.inl n), some (.inl (-8))]) 45 rfl rfl rfl (by decide) rfl ?_
  refine p_goto 3 rfl rfl ?_
  refine p_iload 4 rfl rfl rfl ?_
  refine p_if_lt_t 48 rfl rfl (by decide) ?_
  refine p_ret rfl rfl ?_
  -- leaf 1: answer [] h=y8
  refine K _ ⟨?_, ?_, ?_, ?_⟩ (by assumption)
  · rw [e8, e7, e6, e5, e4, e3, e2, e1]
    exact ((((((((Keep.rf putA h).sv rfl _).sv rfl _).sv rfl _).sv rfl _).sv rfl _).sv rfl _).sv rfl _).sv rfl _
  · rw [e8, sv_eq]; omega
  · intro i hi
    rw [e8, sv_ne (by decide), e7, sv_nf (by omega), e6, sv_ne (by decide), e5, sv_nf (by omega), e4, sv_ne (by decide), e3, sv_nf (by omega), e2, sv_ne (by decide), e1, sv_nf (by omega)]
  · intro j j0 j4
    rcases (show j = 0 ∨ j = 1 ∨ j = 2 ∨ j = 3 by omega) with rfl | rfl | rfl | rfl
    · rw [e8, sv_ne (by decide), e7, sv_nf (by omega), e6, sv_ne (by decide), e5, sv_nf (by omega), e4, sv_ne (by decide), e3, sv_nf (by omega), e2, sv_ne (by decide), e1, Int.add_zero, sv_eq]; exact us_byt n 24 (by decide)
    · rw [e8, sv_ne (by decide), e7, sv_nf (by omega), e6, sv_ne (by decide), e5, sv_nf (by omega), e4, sv_ne (by decide), e3, sv_eq]; exact us_byt n 16 (by decide)
    · rw [e8, sv_ne (by decide), e7, sv_nf (by omega), e6, sv_ne (by decide), e5, show gv h 3 1 + 2 = gv h 3 1 + 1 + 1 by omega, sv_eq]; exact us_byt n 8 (by decide)
    · rw [e8, sv_ne (by decide), e7, show gv h 3 1 + 3 = gv h 3 1 + 1 + 1 + 1 by omega, sv_eq]; exact us_byt n 0 (by decide)

def sel5 (a b c e f k : Int) : Int := if k < 4 then a else if k < 8 then b else if k < 12 then c else if k < 16 then e else f
/-- what feed does, told of the bytes at (L, T) by ok -/
theorem x_feed {d : Nat} {h : PH} {q : PQ} (S : Shape h) (a b c e f : Int) (h0 : 0 ≤ gv h 3 1)
    (K : ∀ r h', (680 < gv h 3 1 ∧ r = -1 ∧ h' = h) ∨ (gv h 3 1 ≤ 680 ∧ r = gv h 3 1 + 20 ∧ Keep putA h h' ∧ gv h' 3 1 = gv h 3 1 + 20 ∧ (∀ i, i < gv h 3 1 → gv h' 4 i = gv h 4 i) ∧ ∀ k, 0 ≤ k → k < 20 → gv h' 4 (gv h 3 1 + k) % 256 = byt (sel5 a b c e f k) (k % 4)) → Shape h' → q (some (.inl r)) h') :
    Wp (d + 2) 0 0 M_X11_feed 0 [some (.inr (.inr 2)), some (.inl a), some (.inl b), some (.inl c), some (.inl e), some (.inl f)] [] h q := by
  refine p_aload 1 rfl rfl rfl ?_
  refine p_getfr (j := 0) (z := 3) 4 rfl rfl rfl (tg_2 S) rfl (fi_2_0 S) ?_
  refine p_getfi (j := 1) (z := gv h 3 1) 7 rfl rfl rfl (tg_3 S) rfl rfl ?_
  refine p_const 10 rfl rfl ?_
  refine p_ic_le 13 15 rfl rfl rfl (fun c1 => ?_) (fun c1 => ?_)
  · skip
    refine p_aload 16 rfl rfl rfl ?_
    refine p_getfr (j := 0) (z := 3) 19 rfl rfl rfl (tg_2 S) rfl (fi_2_0 S) ?_
    refine p_iload 20 rfl rfl rfl ?_
    refine p_callv (le := [some (.inr (.inr 3)), some (.inl a), none]) (as := [.inr (.inr 3), .inl a]) (rest := []) 23 0 0 0 0 rfl rfl (Nat.le_of_ble_eq_true rfl) rfl (Nat.le_of_ble_eq_true rfl) rfl rfl (Nat.le_of_ble_eq_true rfl) rfl (Nat.le_of_ble_eq_true rfl) rfl (Nat.le_refl _) (Nat.le_refl _) rfl rfl (tg_3 S) ?_
    refine ok_X9_put S a (by omega) (by omega) (fun y2 p2 S2 => ?_)
    obtain ⟨k2, l2, o2, b2⟩ := p2
    show Wp (d + 2) 0 0 M_X11_feed 23 [some (.inr (.inr 2)), some (.inl a), some (.inl b), some (.inl c), some (.inl e), some (.inl f)] [] y2 _
    refine p_aload 24 rfl rfl rfl ?_
    refine p_getfr (j := 0) (z := 3) 27 rfl rfl rfl (tg_2 S2) rfl (fi_2_0 S2) ?_
    refine p_iload 28 rfl rfl rfl ?_
    refine p_callv (le := [some (.inr (.inr 3)), some (.inl b), none]) (as := [.inr (.inr 3), .inl b]) (rest := []) 31 0 0 0 0 rfl rfl (Nat.le_of_ble_eq_true rfl) rfl (Nat.le_of_ble_eq_true rfl) rfl rfl (Nat.le_of_ble_eq_true rfl) rfl (Nat.le_of_ble_eq_true rfl) rfl (Nat.le_refl _) (Nat.le_refl _) rfl rfl (tg_3 S2) ?_
    refine ok_X9_put S2 b (by omega) (by omega) (fun y3 p3 S3 => ?_)
    obtain ⟨k3, l3, o3, b3⟩ := p3
    show Wp (d + 2) 0 0 M_X11_feed 31 [some (.inr (.inr 2)), some (.inl a), some (.inl b), some (.inl c), some (.inl e), some (.inl f)] [] y3 _
    refine p_aload 32 rfl rfl rfl ?_
    refine p_getfr (j := 0) (z := 3) 35 rfl rfl rfl (tg_2 S3) rfl (fi_2_0 S3) ?_
    refine p_iload 36 rfl rfl rfl ?_
    refine p_callv (le := [some (.inr (.inr 3)), some (.inl c), none]) (as := [.inr (.inr 3), .inl c]) (rest := []) 39 0 0 0 0 rfl rfl (Nat.le_of_ble_eq_true rfl) rfl (Nat.le_of_ble_eq_true rfl) rfl rfl (Nat.le_of_ble_eq_true rfl) rfl (Nat.le_of_ble_eq_true rfl) rfl (Nat.le_refl _) (Nat.le_refl _) rfl rfl (tg_3 S3) ?_
    refine ok_X9_put S3 c (by omega) (by omega) (fun y4 p4 S4 => ?_)
    obtain ⟨k4, l4, o4, b4⟩ := p4
    show Wp (d + 2) 0 0 M_X11_feed 39 [some (.inr (.inr 2)), some (.inl a), some (.inl b), some (.inl c), some (.inl e), some (.inl f)] [] y4 _
    refine p_aload 40 rfl rfl rfl ?_
    refine p_getfr (j := 0) (z := 3) 43 rfl rfl rfl (tg_2 S4) rfl (fi_2_0 S4) ?_
    refine p_iload 45 rfl rfl rfl ?_
    refine p_callv (le := [some (.inr (.inr 3)), some (.inl e), none]) (as := [.inr (.inr 3), .inl e]) (rest := []) 48 0 0 0 0 rfl rfl (Nat.le_of_ble_eq_true rfl) rfl (Nat.le_of_ble_eq_true rfl) rfl rfl (Nat.le_of_ble_eq_true rfl) rfl (Nat.le_of_ble_eq_true rfl) rfl (Nat.le_refl _) (Nat.le_refl _) rfl rfl (tg_3 S4) ?_
    refine ok_X9_put S4 e (by omega) (by omega) (fun y5 p5 S5 => ?_)
    obtain ⟨k5, l5, o5, b5⟩ := p5
    show Wp (d + 2) 0 0 M_X11_feed 48 [some (.inr (.inr 2)), some (.inl a), some (.inl b), some (.inl c), some (.inl e), some (.inl f)] [] y5 _
    refine p_aload 49 rfl rfl rfl ?_
    refine p_getfr (j := 0) (z := 3) 52 rfl rfl rfl (tg_2 S5) rfl (fi_2_0 S5) ?_
    refine p_iload 54 rfl rfl rfl ?_
    refine p_callv (le := [some (.inr (.inr 3)), some (.inl f), none]) (as := [.inr (.inr 3), .inl f]) (rest := []) 57 0 0 0 0 rfl rfl (Nat.le_of_ble_eq_true rfl) rfl (Nat.le_of_ble_eq_true rfl) rfl rfl (Nat.le_of_ble_eq_true rfl) rfl (Nat.le_of_ble_eq_true rfl) rfl (Nat.le_refl _) (Nat.le_refl _) rfl rfl (tg_3 S5) ?_
    refine ok_X9_put S5 f (by omega) (by omega) (fun y6 p6 S6 => ?_)
    obtain ⟨k6, l6, o6, b6⟩ := p6
    show Wp (d + 2) 0 0 M_X11_feed 57 [some (.inr (.inr 2)), some (.inl a), some (.inl b), some (.inl c), some (.inl e), some (.inl f)] [] y6 _
    refine p_aload 58 rfl rfl rfl ?_
    refine p_getfr (j := 0) (z := 3) 61 rfl rfl rfl (tg_2 S6) rfl (fi_2_0 S6) ?_
    refine p_getfi (j := 1) (z := gv y6 3 1) 64 rfl rfl rfl (tg_3 S6) rfl rfl ?_
    refine p_iret rfl rfl ?_
    -- leaf 1: answer [.inl (gv y6 3 1)] h=y6
    refine K _ _ (Or.inr ⟨by omega, by omega, (((k2.trans k3).trans k4).trans k5).trans k6, by omega, fun i hi => ?_, fun k k0 k20 => ?_⟩) (by assumption)
    · rw [o6 i (by omega), o5 i (by omega), o4 i (by omega), o3 i (by omega), o2 i (by omega)]
    · unfold sel5
      rcases (show k < 4 ∨ (4 ≤ k ∧ k < 8) ∨ (8 ≤ k ∧ k < 12) ∨ (12 ≤ k ∧ k < 16) ∨ 16 ≤ k by omega) with z | z | z | z | z
      · rw [if_pos z, o6 _ (by omega), o5 _ (by omega), o4 _ (by omega), o3 _ (by omega), b2 k k0 z, show k % 4 = k by omega]
      · rw [if_neg (by omega), if_pos z.2, o6 _ (by omega), o5 _ (by omega), o4 _ (by omega), show gv h 3 1 + k = gv y2 3 1 + (k - 4) by omega, b3 _ (by omega) (by omega), show k % 4 = k - 4 by omega]
      · rw [if_neg (by omega), if_neg (by omega), if_pos z.2, o6 _ (by omega), o5 _ (by omega), show gv h 3 1 + k = gv y3 3 1 + (k - 8) by omega, b4 _ (by omega) (by omega), show k % 4 = k - 8 by omega]
      · rw [if_neg (by omega), if_neg (by omega), if_neg (by omega), if_pos z.2, o6 _ (by omega), show gv h 3 1 + k = gv y4 3 1 + (k - 12) by omega, b5 _ (by omega) (by omega), show k % 4 = k - 12 by omega]
      · rw [if_neg (by omega), if_neg (by omega), if_neg (by omega), if_neg (by omega), show gv h 3 1 + k = gv y5 3 1 + (k - 16) by omega, b6 _ (by omega) (by omega), show k % 4 = k - 16 by omega]
  · skip
    refine p_const 14 rfl rfl ?_
    refine p_iret rfl rfl ?_
    -- leaf 2: answer [.inl (-1)] h=h
    exact K _ _ (Or.inl ⟨by omega, rfl, rfl⟩) S
def endA (a i : Int) : Bool := a == 3 && i == 1
theorem x_end {d : Nat} {h : PH} {q : PQ} (S : Shape h) (n : Int)
    (K : ∀ r h', ((n < 0 ∨ gv h 3 1 < n) ∧ r = 0 ∧ h' = h) ∨ (0 ≤ n ∧ n ≤ gv h 3 1 ∧ r = 1 ∧ Keep endA h h' ∧ gv h' 3 1 = n) → Shape h' → q (some (.inl r)) h') :
    Wp (d + 1) 0 0 M_X11_end 0 [some (.inr (.inr 2)), some (.inl n)] [] h q := by
  refine p_iload 1 rfl rfl rfl ?_
  refine p_if_lt 4 15 rfl rfl rfl (fun c1 => ?_) (fun c1 => ?_)
  · skip
    refine p_const 16 rfl rfl ?_
    refine p_zret rfl rfl (by decide) ?_
    -- leaf 1: answer [.inl 0] h=h
    exact K _ _ (Or.inl ⟨by omega, rfl, rfl⟩) S
  · skip
    refine p_iload 5 rfl rfl rfl ?_
    refine p_aload 6 rfl rfl rfl ?_
    refine p_getfr (j := 0) (z := 3) 9 rfl rfl rfl (tg_2 S) rfl (fi_2_0 S) ?_
    refine p_getfi (j := 1) (z := gv h 3 1) 12 rfl rfl rfl (tg_3 S) rfl rfl ?_
    refine p_ic_le 15 17 rfl rfl rfl (fun c2 => ?_) (fun c2 => ?_)
    · skip
      refine p_aload 18 rfl rfl rfl ?_
      refine p_getfr (j := 0) (z := 3) 21 rfl rfl rfl (tg_2 S) rfl (fi_2_0 S) ?_
      refine p_iload 22 rfl rfl rfl ?_
      refine p_putfi (j := 1) 25 rfl rfl rfl (fun z => absurd z (by decide)) (tg_3 S) rfl ?_
      refine p_nmh (fun y3 e3 => ?_)
      have S3 : Shape y3 := by rw [e3]; exact S.svF ff_3_1 _
      refine p_const 26 rfl rfl ?_
      refine p_zret rfl rfl (by decide) ?_
      -- leaf 2: answer [.inl 1] h=y3
      exact K _ _ (Or.inr ⟨by omega, by omega, rfl, by rw [e3]; exact (Keep.rf endA h).sv rfl _, by rw [e3, sv_eq]⟩) S3
    · skip
      refine p_const 16 rfl rfl ?_
      refine p_zret rfl rfl (by decide) ?_
      -- leaf 3: answer [.inl 0] h=h
      exact K _ _ (Or.inl ⟨by omega, rfl, rfl⟩) S
def mendA (a i : Int) : Bool := a == 66 && i == 1
theorem m_end {d : Nat} {h : PH} {q : PQ} (S : Shape h) (n : Int)
    (K : ∀ r h', ((n < 0 ∨ gv h 66 1 < n) ∧ r = 0 ∧ h' = h) ∨ (0 ≤ n ∧ n ≤ gv h 66 1 ∧ r = 1 ∧ Keep mendA h h' ∧ gv h' 66 1 = n) → Shape h' → q (some (.inl r)) h') :
    Wp (d + 1) 0 0 M_X12_end 0 [some (.inr (.inr 66)), some (.inl n)] [] h q := by
  refine p_iload 1 rfl rfl rfl ?_
  refine p_if_lt 4 12 rfl rfl rfl (fun c1 => ?_) (fun c1 => ?_)
  · skip
    refine p_const 13 rfl rfl ?_
    refine p_zret rfl rfl (by decide) ?_
    -- leaf 1: answer [.inl 0] h=h
    exact K _ _ (Or.inl ⟨by omega, rfl, rfl⟩) S
  · skip
    refine p_iload 5 rfl rfl rfl ?_
    refine p_aload 6 rfl rfl rfl ?_
    refine p_getfi (j := 1) (z := gv h 66 1) 9 rfl rfl rfl (tg_66 S) rfl rfl ?_
    refine p_ic_le 12 14 rfl rfl rfl (fun c2 => ?_) (fun c2 => ?_)
    · skip
      refine p_aload 15 rfl rfl rfl ?_
      refine p_iload 16 rfl rfl rfl ?_
      refine p_putfi (j := 1) 19 rfl rfl rfl (fun z => absurd z (by decide)) (tg_66 S) rfl ?_
      refine p_nmh (fun y3 e3 => ?_)
      have S3 : Shape y3 := by rw [e3]; exact S.svF ff_66_1 _
      refine p_const 20 rfl rfl ?_
      refine p_zret rfl rfl (by decide) ?_
      -- leaf 2: answer [.inl 1] h=y3
      exact K _ _ (Or.inr ⟨by omega, by omega, rfl, by rw [e3]; exact (Keep.rf mendA h).sv rfl _, by rw [e3, sv_eq]⟩) S3
    · skip
      refine p_const 13 rfl rfl ?_
      refine p_zret rfl rfl (by decide) ?_
      -- leaf 3: answer [.inl 0] h=h
      exact K _ _ (Or.inl ⟨by omega, rfl, rfl⟩) S
def mputA (a i : Int) : Bool := (a == 66 && i == 1) || a == 67
theorem m_feed_loop {d : Nat} {h : PH} {q : PQ} (a b c e f : Int) (T : Int) (hT0 : 0 ≤ T) (hT : T ≤ 680)
    (K : ∀ h', Keep mputA h h' → gv h' 66 1 = T + 20 → (∀ i, i < T → gv h' 67 i = gv h 67 i) → (∀ k, 0 ≤ k → k < 20 → gv h' 67 (T + k) = byt (sel5 a b c e f k) (k % 4)) → Shape h' → q (some (.inl (T + 20))) h') :
    ∀ (n : Nat) (k : Int) (w : Option PV) (h1 : PH), 0 ≤ k → k + n = 20 → Shape h1 → Keep mputA h h1 → gv h1 66 1 = T + k → (∀ i, i < T → gv h1 67 i = gv h 67 i) → (∀ j, 0 ≤ j → j < k → gv h1 67 (T + j) = byt (sel5 a b c e f j) (j % 4)) →
    Wp (d + 1) 0 0 M_X12_feed 18 [some (.inr (.inr 66)), some (.inl a), some (.inl b), some (.inl c), some (.inl e), some (.inl f), some (.inl k), w] [] h1 q := by
  intro n
  induction n with
  | zero =>
    intro k w h1 hk hn S hkeep ht ho hb
    have hk20 : k = 20 := by omega
    refine p_iload 20 rfl rfl rfl ?_
    refine p_const 22 rfl rfl ?_
    refine p_ic_ge_t 114 rfl rfl (by omega) ?_
    refine p_aload 115 rfl rfl rfl ?_
    refine p_getfi (j := 1) (z := gv h1 66 1) 118 rfl rfl rfl (tg_66 S) rfl rfl ?_
    refine p_iret rfl rfl ?_
    -- leaf 1: answer [.inl (gv h1 66 1)] h=h1
    rw [ht, hk20]; rw [hk20] at hb ht; exact K h1 hkeep ht ho hb S
  | succ n ih =>
    intro k w h1 hk hn S hkeep ht ho hb
    have J : ∀ w0, w0 = sel5 a b c e f k → Wp (d + 1) 0 0 M_X12_feed 71 [some (.inr (.inr 66)), some (.inl a), some (.inl b), some (.inl c), some (.inl e), some (.inl f), some (.inl k), w] [.inl w0] h1 q := by
      intro w0 hw
      refine p_istore (ls' := [some (.inr (.inr 66)), some (.inl a), some (.inl b), some (.inl c), some (.inl e), some (.inl f), some (.inl k), some (.inl w0)]) 73 rfl rfl (Nat.le_of_ble_eq_true rfl) rfl ?_
      refine p_aload 74 rfl rfl rfl ?_
      refine p_getfr (j := 0) (z := 67) 77 rfl rfl rfl (tg_66 S) rfl (fi_66_0 S) ?_
      refine p_aload 78 rfl rfl rfl ?_
      refine p_getfi (j := 1) (z := gv h1 66 1) 81 rfl rfl rfl (tg_66 S) rfl rfl ?_
      refine p_iload 83 rfl rfl rfl ?_
      refine p_const 85 rfl rfl ?_
      refine p_const 86 rfl rfl ?_
      refine p_iload 88 rfl rfl rfl ?_
      refine p_const 89 rfl rfl ?_
      refine p_irem (z := k % 4) 90 rfl rfl (by decide) (rm_id (by omega) (by omega)) ?_
      refine p_isub (z := 3 - (k % 4)) 91 rfl rfl (w32_id ⟨(by omega), (by omega)⟩) ?_
      refine p_imul (z := 8 * (3 - (k % 4))) 92 rfl rfl (w32_id ⟨(by omega), (by omega)⟩) ?_
      refine p_ishr (z := w0 / 2 ^ (8 * (3 - (k % 4))).toNat) 93 rfl rfl (by omega) (by omega) rfl ?_
      refine p_const 96 rfl rfl ?_
      refine p_iand (z := (w0 / 2 ^ (8 * (3 - (k % 4))).toNat) % 256) 97 rfl rfl (mask32 8 rfl (by decide)) ?_
      refine p_iast (w := 700) 98 rfl rfl (by decide) (tg_67 S) (ln_67 S) (by omega) (by omega) ?_
      refine p_nmh (fun y1 e1 => ?_)
      have S1 : Shape y1 := by rw [e1]; exact S.svA fa_67 _ _
      refine p_aload 99 rfl rfl rfl ?_
      refine p_dup 100 rfl rfl nl_r ?_
      refine p_getfi (j := 1) (z := gv h1 66 1) 103 rfl rfl rfl (tg_66 S1) rfl (by rw [e1, sv_ne (by decide)]) ?_
      refine p_const 104 rfl rfl ?_
      refine p_iadd (z := (gv h1 66 1) + 1) 105 rfl rfl (w32_id ⟨(by omega), (by omega)⟩) ?_
      refine p_putfi (j := 1) 108 rfl rfl rfl (fun z => absurd z (by decide)) (tg_66 S1) rfl ?_
      refine p_nmh (fun y2 e2 => ?_)
      have S2 : Shape y2 := by rw [e2]; exact S1.svF ff_66_1 _
      refine p_iinc (y := k + 1) (ls' := [some (.inr (.inr 66)), some (.inl a), some (.inl b), some (.inl c), some (.inl e), some (.inl f), some (.inl (k + 1)), some (.inl w0)]) 111 rfl rfl rfl (w32_id ⟨(by omega), (by omega)⟩) rfl ?_
      refine p_goto 18 rfl rfl ?_
      -- leaf 1: loop 18 [some (.inr (.inr 66)), some (.inl a), some (.inl b), some (.inl c), some (.inl e), some (.inl f), some (.inl (k + 1)), some (.inl w0)] st=[] h=y2
      refine ih (k + 1) _ _ (by omega) (by omega) (by assumption) ?_ ?_ ?_ ?_
      · rw [e2, e1]; exact (hkeep.sv rfl _).sv rfl _
      · rw [e2, sv_eq, ht]; omega
      · intro i hi; rw [e2, sv_ne (by decide), e1, sv_nf (by omega)]; exact ho i hi
      · intro j j0 j1
        rw [e2, sv_ne (by decide), e1]
        by_cases hj : j = k
        · rw [hj, ← ht, sv_eq, hw]
          unfold byt
          rw [show (8 * (3 - k % 4)).toNat = (24 - 8 * (k % 4)).toNat by omega]
        · rw [sv_nf (by omega)]; exact hb j j0 (by omega)
    refine p_iload 20 rfl rfl rfl ?_
    refine p_const 22 rfl rfl ?_
    refine p_ic_ge_f 25 rfl rfl (by omega) ?_
    refine p_iload 27 rfl rfl rfl ?_
    refine p_const 28 rfl rfl ?_
    refine p_ic_ge 31 35 rfl rfl rfl (fun c1 => ?_) (fun c1 => ?_)
    · skip
      refine p_iload 37 rfl rfl rfl ?_
      refine p_const 39 rfl rfl ?_
      refine p_ic_ge 42 46 rfl rfl rfl (fun c2 => ?_) (fun c2 => ?_)
      · skip
        refine p_iload 48 rfl rfl rfl ?_
        refine p_const 50 rfl rfl ?_
        refine p_ic_ge 53 57 rfl rfl rfl (fun c3 => ?_) (fun c3 => ?_)
        · skip
          refine p_iload 59 rfl rfl rfl ?_
          refine p_const 61 rfl rfl ?_
          refine p_ic_ge 64 69 rfl rfl rfl (fun c4 => ?_) (fun c4 => ?_)
          · skip
            refine p_iload 71 rfl rfl rfl ?_
            -- leaf 1: loop 71 [some (.inr (.inr 66)), some (.inl a), some (.inl b), some (.inl c), some (.inl e), some (.inl f), some (.inl k), none] st=[.inl f] h=h1
            exact J _ (by unfold sel5; (repeat' split) <;> first | rfl | omega)
          · skip
            refine p_iload 66 rfl rfl rfl ?_
            refine p_goto 71 rfl rfl ?_
            -- leaf 2: loop 71 [some (.inr (.inr 66)), some (.inl a), some (.inl b), some (.inl c), some (.inl e), some (.inl f), some (.inl k), none] st=[.inl e] h=h1
            exact J _ (by unfold sel5; (repeat' split) <;> first | rfl | omega)
        · skip
          refine p_iload 54 rfl rfl rfl ?_
          refine p_goto 71 rfl rfl ?_
          -- leaf 3: loop 71 [some (.inr (.inr 66)), some (.inl a), some (.inl b), some (.inl c), some (.inl e), some (.inl f), some (.inl k), none] st=[.inl c] h=h1
          exact J _ (by unfold sel5; (repeat' split) <;> first | rfl | omega)
      · skip
        refine p_iload 43 rfl rfl rfl ?_
        refine p_goto 71 rfl rfl ?_
        -- leaf 4: loop 71 [some (.inr (.inr 66)), some (.inl a), some (.inl b), some (.inl c), some (.inl e), some (.inl f), some (.inl k), none] st=[.inl b] h=h1
        exact J _ (by unfold sel5; (repeat' split) <;> first | rfl | omega)
    · skip
      refine p_iload 32 rfl rfl rfl ?_
      refine p_goto 71 rfl rfl ?_
      -- leaf 5: loop 71 [some (.inr (.inr 66)), some (.inl a), some (.inl b), some (.inl c), some (.inl e), some (.inl f), some (.inl k), none] st=[.inl a] h=h1
      exact J _ (by unfold sel5; (repeat' split) <;> first | rfl | omega)
theorem m_feed {d : Nat} {h : PH} {q : PQ} (S : Shape h) (a b c e f : Int) (h0 : 0 ≤ gv h 66 1)
    (K : ∀ r h', (680 < gv h 66 1 ∧ r = -1 ∧ h' = h) ∨ (gv h 66 1 ≤ 680 ∧ r = gv h 66 1 + 20 ∧ Keep mputA h h' ∧ gv h' 66 1 = gv h 66 1 + 20 ∧ (∀ i, i < gv h 66 1 → gv h' 67 i = gv h 67 i) ∧ ∀ k, 0 ≤ k → k < 20 → gv h' 67 (gv h 66 1 + k) = byt (sel5 a b c e f k) (k % 4)) → Shape h' → q (some (.inl r)) h') (hT : gv h 66 1 ≤ 700) :
    Wp (d + 1) 0 0 M_X12_feed 0 [some (.inr (.inr 66)), some (.inl a), some (.inl b), some (.inl c), some (.inl e), some (.inl f), none, none] [] h q := by
  refine p_aload 1 rfl rfl rfl ?_
  refine p_getfi (j := 1) (z := gv h 66 1) 4 rfl rfl rfl (tg_66 S) rfl rfl ?_
  refine p_const 6 rfl rfl ?_
  refine p_iadd (z := (gv h 66 1) + 20) 7 rfl rfl (w32_id ⟨(by omega), (by omega)⟩) ?_
  refine p_const 10 rfl rfl ?_
  refine p_ic_le 13 15 rfl rfl rfl (fun c1 => ?_) (fun c1 => ?_)
  · skip
    refine p_const 16 rfl rfl ?_
    refine p_istore (ls' := [some (.inr (.inr 66)), some (.inl a), some (.inl b), some (.inl c), some (.inl e), some (.inl f), some (.inl 0), none]) 18 rfl rfl (Nat.le_of_ble_eq_true rfl) rfl ?_
    -- leaf 1: loop 18 [some (.inr (.inr 66)), some (.inl a), some (.inl b), some (.inl c), some (.inl e), some (.inl f), some (.inl 0), none] st=[] h=h
    exact m_feed_loop a b c e f (gv h 66 1) h0 (by omega) (fun h' g1 g2 g3 g4 S' => K _ _ (Or.inr ⟨by omega, rfl, g1, g2, g3, g4⟩) S') 20 0 none h (Int.le_refl 0) rfl S (Keep.rf _ _) (by omega) (fun _ _ => rfl) (fun j z1 z2 => by omega)
  · skip
    refine p_const 14 rfl rfl ?_
    refine p_iret rfl rfl ?_
    -- leaf 2: answer [.inl (-1)] h=h
    exact K _ _ (Or.inl ⟨by omega, rfl, rfl⟩) S

