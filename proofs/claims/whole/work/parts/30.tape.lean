/-! THE TAPE -/
theorem ok_X9_at {d : Nat} {h : PH} {q : PQ} (S : Shape h) (place : Int)
    (K1 : 0 ≤ place → place < gv h 3 1 → place < 700 → q (some (.inl (gv h 4 place % 256))) h) (K2 : ¬ (0 ≤ place ∧ place < gv h 3 1 ∧ place < 700) → q (some (.inl (-1))) h) : Wp (d + 1) 0 0 M_X9_at 0 [some (.inr (.inr 3)), some (.inl place)] [] h q := by
  refine p_iload 1 rfl rfl rfl ?_
  refine p_if_lt 4 34 rfl rfl rfl (fun c1 => ?_) (fun c1 => ?_)
  · skip
    refine p_const 35 rfl rfl ?_
    refine p_iret rfl rfl ?_
    -- leaf 1: answer [.inl (-1)] h=h
    exact K2 (by omega)
  · skip
    refine p_iload 5 rfl rfl rfl ?_
    refine p_aload 6 rfl rfl rfl ?_
    refine p_getfi (j := 1) (z := gv h 3 1) 9 rfl rfl rfl (tg_3 S) rfl rfl ?_
    refine p_ic_ge 12 34 rfl rfl rfl (fun c2 => ?_) (fun c2 => ?_)
    · skip
      refine p_const 35 rfl rfl ?_
      refine p_iret rfl rfl ?_
      -- leaf 2: answer [.inl (-1)] h=h
      exact K2 (by omega)
    · skip
      refine p_iload 13 rfl rfl rfl ?_
      refine p_aload 14 rfl rfl rfl ?_
      refine p_getfr (j := 0) (z := 4) 17 rfl rfl rfl (tg_3 S) rfl (fi_3_0 S) ?_
      refine p_alen (w := 700) 18 rfl rfl (by rw [tg_4 S]; decide) (ln_4 S) ?_
      refine p_ic_ge 21 34 rfl rfl rfl (fun c3 => ?_) (fun c3 => ?_)
      · skip
        refine p_const 35 rfl rfl ?_
        refine p_iret rfl rfl ?_
        -- leaf 3: answer [.inl (-1)] h=h
        exact K2 (by omega)
      · skip
        refine p_aload 22 rfl rfl rfl ?_
        refine p_getfr (j := 0) (z := 4) 25 rfl rfl rfl (tg_3 S) rfl (fi_3_0 S) ?_
        refine p_iload 26 rfl rfl rfl ?_
        refine p_bald (w := 700) (z := gv h 4 place) 27 rfl rfl (Or.inl (tg_4 S)) (ln_4 S) (by omega) (by omega) rfl ?_
        refine p_const 30 rfl rfl ?_
        refine p_iand (z := (gv h 4 place) % 256) 31 rfl rfl (mask32 8 rfl (by decide)) ?_
        refine p_goto 35 rfl rfl ?_
        refine p_iret rfl rfl ?_
        -- leaf 4: answer [.inl ((gv h 4 place) % 256)] h=h
        exact K1 (by omega) (by omega) (by omega)
/-- what a call leaves alone -/
def Keep (A : Int → Bool) (h h1 : PH) : Prop := (∀ a i, A a = false → gv h1 a i = gv h a i) ∧ nx h1 = nx h ∧ (∀ a, tg h1 a = tg h a) ∧ (∀ a, ln h1 a = ln h a)
theorem Keep.rf (A : Int → Bool) (h : PH) : Keep A h h := ⟨fun _ _ _ => rfl, rfl, fun _ => rfl, fun _ => rfl⟩
theorem Keep.trans {A : Int → Bool} {h h1 h2 : PH} (k1 : Keep A h h1) (k2 : Keep A h1 h2) : Keep A h h2 :=
  ⟨fun a i ha => (k2.1 a i ha).trans (k1.1 a i ha), k2.2.1.trans k1.2.1, fun a => (k2.2.2.1 a).trans (k1.2.2.1 a), fun a => (k2.2.2.2 a).trans (k1.2.2.2 a)⟩
theorem Keep.sv {A : Int → Bool} {h h1 : PH} {a : Int} (k : Keep A h h1) (ha : A a = true) (i v : Int) : Keep A h (sv h1 a i v) :=
  ⟨fun b j hb => by rw [sv_ne (fun z => by rw [z, ha] at hb; cases hb)]; exact k.1 b j hb, k.2.1, k.2.2.1, k.2.2.2⟩
theorem Keep.wide {A B : Int → Bool} {h h1 : PH} (k : Keep A h h1) (hAB : ∀ a, B a = false → A a = false) : Keep B h h1 := ⟨fun a i ha => k.1 a i (hAB a ha), k.2⟩
/-- byte j of a number, the highest first -/
def byt (n : Int) (j : Int) : Int := n / 2 ^ (24 - 8 * j).toNat % 256
theorem us_byt (n : Int) (k : Nat) (hk : k = 24 ∨ k = 16 ∨ k = 8 ∨ k = 0) : w8 (us32 n (k : Int)) % 256 = n / 2 ^ k % 256 := by
  unfold w8 us32 w32
  rw [Int.toNat_natCast]
  have e1 : ∀ x : Int, Int.bmod x 256 % 256 = x % 256 := fun x => Int.bmod_emod
  rw [e1]
  have e2 : ∀ x : Int, Int.bmod x 4294967296 % 256 = x % 256 := fun x => by
    have h1 : Int.bmod x 4294967296 % 4294967296 = x % 4294967296 := Int.bmod_emod
    omega
  rw [e2]
  rcases hk with rfl | rfl | rfl | rfl
  · show n % 4294967296 / 16777216 % 256 = n / 16777216 % 256; omega
  · show n % 4294967296 / 65536 % 256 = n / 65536 % 256; omega
  · show n % 4294967296 / 256 % 256 = n / 256 % 256; omega
  · show n % 4294967296 / 1 % 256 = n / 1 % 256; omega
def putA (a : Int) : Bool := a == 3 || a == 4
theorem ok_X9_put {d : Nat} {h : PH} {q : PQ} (S : Shape h) (n : Int) (h0 : 0 ≤ gv h 3 1) (h1 : gv h 3 1 ≤ 696)
    (K : ∀ h', (Keep putA h h' ∧ gv h' 3 1 = gv h 3 1 + 4 ∧ (∀ i, i < gv h 3 1 → gv h' 4 i = gv h 4 i) ∧ ∀ j, 0 ≤ j → j < 4 → gv h' 4 (gv h 3 1 + j) % 256 = byt n j) → Shape h' → q none h') : Wp (d + 1) 0 0 M_X9_put 0 [some (.inr (.inr 3)), some (.inl n), none] [] h q := by
  refine p_const 2 rfl rfl ?_
  refine p_istore (ls' := [some (.inr (.inr 3)), some (.inl n), some (.inl 24)]) 3 rfl rfl (Nat.le_of_ble_eq_true rfl) rfl ?_
  refine p_iload 4 rfl rfl rfl ?_
  refine p_if_lt_f 7 rfl rfl (by decide) ?_
  refine p_aload 8 rfl rfl rfl ?_
  refine p_getfi (j := 1) (z := gv h 3 1) 11 rfl rfl rfl (tg_3 S) rfl rfl ?_
  refine p_aload 12 rfl rfl rfl ?_
  refine p_getfr (j := 0) (z := 4) 15 rfl rfl rfl (tg_3 S) rfl (fi_3_0 S) ?_
  refine p_alen (w := 700) 16 rfl rfl (by rw [tg_4 S]; decide) (ln_4 S) ?_
  refine p_ic_ge_f 19 rfl rfl (by omega) ?_
  refine p_aload 20 rfl rfl rfl ?_
  refine p_getfr (j := 0) (z := 4) 23 rfl rfl rfl (tg_3 S) rfl (fi_3_0 S) ?_
  refine p_aload 24 rfl rfl rfl ?_
  refine p_getfi (j := 1) (z := gv h 3 1) 27 rfl rfl rfl (tg_3 S) rfl rfl ?_
  refine p_iload 28 rfl rfl rfl ?_
  refine p_iload 29 rfl rfl rfl ?_
  refine p_iushr (z := us32 n 24) 30 rfl rfl (by decide) (by decide) rfl ?_
  refine p_i2b (z := w8 (us32 n 24)) 31 rfl rfl rfl ?_
  refine p_bast (w := 700) 32 rfl rfl (by decide) (tg_4 S) (ln_4 S) (by omega) (by omega) (w8_in _) ?_
  refine p_nmh (fun h1 e1 => ?_)
  have S1 : Shape h1 := by rw [e1]; exact S.svA fa_4 _ _
  refine p_aload 33 rfl rfl rfl ?_
  refine p_dup 34 rfl rfl nl_r ?_
  refine p_getfi (j := 1) (z := gv h 3 1) 37 rfl rfl rfl (tg_3 S1) rfl (by rw [e1, sv_ne (by decide)]) ?_
  refine p_const 38 rfl rfl ?_
  refine p_iadd (z := (gv h 3 1) + 1) 39 rfl rfl (w32_id ⟨(by omega), (by omega)⟩) ?_
  refine p_putfi (j := 1) 42 rfl rfl rfl (fun z => absurd z (by decide)) (tg_3 S1) rfl ?_
  refine p_nmh (fun h2 e2 => ?_)
  have S2 : Shape h2 := by rw [e2]; exact S1.svF ff_3_1 _
  refine p_iinc (y := 16) (ls' := [some (.inr (.inr 3)), some (.inl n), some (.inl 16)]) 45 rfl rfl rfl (by decide) rfl ?_
  refine p_goto 3 rfl rfl ?_
  refine p_iload 4 rfl rfl rfl ?_
  refine p_if_lt_f 7 rfl rfl (by decide) ?_
  refine p_aload 8 rfl rfl rfl ?_
  refine p_getfi (j := 1) (z := (gv h 3 1) + 1) 11 rfl rfl rfl (tg_3 S2) rfl (by rw [e2]; exact sv_eq _ _ _ _) ?_
  refine p_aload 12 rfl rfl rfl ?_
  refine p_getfr (j := 0) (z := 4) 15 rfl rfl rfl (tg_3 S2) rfl (fi_3_0 S2) ?_
  refine p_alen (w := 700) 16 rfl rfl (by rw [tg_4 S2]; decide) (ln_4 S2) ?_
  refine p_ic_ge_f 19 rfl rfl (by omega) ?_
  refine p_aload 20 rfl rfl rfl ?_
  refine p_getfr (j := 0) (z := 4) 23 rfl rfl rfl (tg_3 S2) rfl (fi_3_0 S2) ?_
  refine p_aload 24 rfl rfl rfl ?_
  refine p_getfi (j := 1) (z := (gv h 3 1) + 1) 27 rfl rfl rfl (tg_3 S2) rfl (by rw [e2]; exact sv_eq _ _ _ _) ?_
  refine p_iload 28 rfl rfl rfl ?_
  refine p_iload 29 rfl rfl rfl ?_
  refine p_iushr (z := us32 n 16) 30 rfl rfl (by decide) (by decide) rfl ?_
  refine p_i2b (z := w8 (us32 n 16)) 31 rfl rfl rfl ?_
  refine p_bast (w := 700) 32 rfl rfl (by decide) (tg_4 S2) (ln_4 S2) (by omega) (by omega) (w8_in _) ?_
  refine p_nmh (fun h3 e3 => ?_)
  have S3 : Shape h3 := by rw [e3]; exact S2.svA fa_4 _ _
  refine p_aload 33 rfl rfl rfl ?_
  refine p_dup 34 rfl rfl nl_r ?_
  refine p_getfi (j := 1) (z := (gv h 3 1) + 1) 37 rfl rfl rfl (tg_3 S3) rfl (by rw [e3, sv_ne (by decide)]; rw [e2]; exact sv_eq _ _ _ _) ?_
  refine p_const 38 rfl rfl ?_
  refine p_iadd (z := ((gv h 3 1) + 1) + 1) 39 rfl rfl (w32_id ⟨(by omega), (by omega)⟩) ?_
  refine p_putfi (j := 1) 42 rfl rfl rfl (fun z => absurd z (by decide)) (tg_3 S3) rfl ?_
  refine p_nmh (fun h4 e4 => ?_)
  have S4 : Shape h4 := by rw [e4]; exact S3.svF ff_3_1 _
  refine p_iinc (y := 8) (ls' := [some (.inr (.inr 3)), some (.inl n), some (.inl 8)]) 45 rfl rfl rfl (by decide) rfl ?_
  refine p_goto 3 rfl rfl ?_
  refine p_iload 4 rfl rfl rfl ?_
  refine p_if_lt_f 7 rfl rfl (by decide) ?_
  refine p_aload 8 rfl rfl rfl ?_
  refine p_getfi (j := 1) (z := ((gv h 3 1) + 1) + 1) 11 rfl rfl rfl (tg_3 S4) rfl (by rw [e4]; exact sv_eq _ _ _ _) ?_
  refine p_aload 12 rfl rfl rfl ?_
  refine p_getfr (j := 0) (z := 4) 15 rfl rfl rfl (tg_3 S4) rfl (fi_3_0 S4) ?_
  refine p_alen (w := 700) 16 rfl rfl (by rw [tg_4 S4]; decide) (ln_4 S4) ?_
  refine p_ic_ge_f 19 rfl rfl (by omega) ?_
  refine p_aload 20 rfl rfl rfl ?_
  refine p_getfr (j := 0) (z := 4) 23 rfl rfl rfl (tg_3 S4) rfl (fi_3_0 S4) ?_
  refine p_aload 24 rfl rfl rfl ?_
  refine p_getfi (j := 1) (z := ((gv h 3 1) + 1) + 1) 27 rfl rfl rfl (tg_3 S4) rfl (by rw [e4]; exact sv_eq _ _ _ _) ?_
  refine p_iload 28 rfl rfl rfl ?_
  refine p_iload 29 rfl rfl rfl ?_
  refine p_iushr (z := us32 n 8) 30 rfl rfl (by decide) (by decide) rfl ?_
  refine p_i2b (z := w8 (us32 n 8)) 31 rfl rfl rfl ?_
  refine p_bast (w := 700) 32 rfl rfl (by decide) (tg_4 S4) (ln_4 S4) (by omega) (by omega) (w8_in _) ?_
  refine p_nmh (fun h5 e5 => ?_)
  have S5 : Shape h5 := by rw [e5]; exact S4.svA fa_4 _ _
  refine p_aload 33 rfl rfl rfl ?_
  refine p_dup 34 rfl rfl nl_r ?_
  refine p_getfi (j := 1) (z := ((gv h 3 1) + 1) + 1) 37 rfl rfl rfl (tg_3 S5) rfl (by rw [e5, sv_ne (by decide)]; rw [e4]; exact sv_eq _ _ _ _) ?_
  refine p_const 38 rfl rfl ?_
  refine p_iadd (z := (((gv h 3 1) + 1) + 1) + 1) 39 rfl rfl (w32_id ⟨(by omega), (by omega)⟩) ?_
  refine p_putfi (j := 1) 42 rfl rfl rfl (fun z => absurd z (by decide)) (tg_3 S5) rfl ?_
  refine p_nmh (fun h6 e6 => ?_)
  have S6 : Shape h6 := by rw [e6]; exact S5.svF ff_3_1 _
  refine p_iinc (y := 0) (ls' := [some (.inr (.inr 3)), some (.inl n), some (.inl 0)]) 45 rfl rfl rfl (by decide) rfl ?_
  refine p_goto 3 rfl rfl ?_
  refine p_iload 4 rfl rfl rfl ?_
  refine p_if_lt_f 7 rfl rfl (by decide) ?_
  refine p_aload 8 rfl rfl rfl ?_
  refine p_getfi (j := 1) (z := (((gv h 3 1) + 1) + 1) + 1) 11 rfl rfl rfl (tg_3 S6) rfl (by rw [e6]; exact sv_eq _ _ _ _) ?_
  refine p_aload 12 rfl rfl rfl ?_
  refine p_getfr (j := 0) (z := 4) 15 rfl rfl rfl (tg_3 S6) rfl (fi_3_0 S6) ?_
  refine p_alen (w := 700) 16 rfl rfl (by rw [tg_4 S6]; decide) (ln_4 S6) ?_
  refine p_ic_ge_f 19 rfl rfl (by omega) ?_
  refine p_aload 20 rfl rfl rfl ?_
  refine p_getfr (j := 0) (z := 4) 23 rfl rfl rfl (tg_3 S6) rfl (fi_3_0 S6) ?_
  refine p_aload 24 rfl rfl rfl ?_
  refine p_getfi (j := 1) (z := (((gv h 3 1) + 1) + 1) + 1) 27 rfl rfl rfl (tg_3 S6) rfl (by rw [e6]; exact sv_eq _ _ _ _) ?_
  refine p_iload 28 rfl rfl rfl ?_
  refine p_iload 29 rfl rfl rfl ?_
  refine p_iushr (z := us32 n 0) 30 rfl rfl (by decide) (by decide) rfl ?_
  refine p_i2b (z := w8 (us32 n 0)) 31 rfl rfl rfl ?_
  refine p_bast (w := 700) 32 rfl rfl (by decide) (tg_4 S6) (ln_4 S6) (by omega) (by omega) (w8_in _) ?_
  refine p_nmh (fun h7 e7 => ?_)
  have S7 : Shape h7 := by rw [e7]; exact S6.svA fa_4 _ _
  refine p_aload 33 rfl rfl rfl ?_
  refine p_dup 34 rfl rfl nl_r ?_
  refine p_getfi (j := 1) (z := (((gv h 3 1) + 1) + 1) + 1) 37 rfl rfl rfl (tg_3 S7) rfl (by rw [e7, sv_ne (by decide)]; rw [e6]; exact sv_eq _ _ _ _) ?_
  refine p_const 38 rfl rfl ?_
  refine p_iadd (z := ((((gv h 3 1) + 1) + 1) + 1) + 1) 39 rfl rfl (w32_id ⟨(by omega), (by omega)⟩) ?_
  refine p_putfi (j := 1) 42 rfl rfl rfl (fun z => absurd z (by decide)) (tg_3 S7) rfl ?_
  refine p_nmh (fun h8 e8 => ?_)
  have S8 : Shape h8 := by rw [e8]; exact S7.svF ff_3_1 _
  refine p_iinc (y := (-8)) (ls' := [some (.inr (.inr 3)), some (.inl n), some (.inl (-8))]) 45 rfl rfl rfl (by decide) rfl ?_
  refine p_goto 3 rfl rfl ?_
  refine p_iload 4 rfl rfl rfl ?_
  refine p_if_lt_t 48 rfl rfl (by decide) ?_
  refine p_ret rfl rfl ?_
  -- leaf 1: answer [] h=h8
  refine K _ ⟨?_, ?_, ?_, ?_⟩ (by assumption)
  · rw [e8, e7, e6, e5, e4, e3, e2, e1]
    exact ((((((((Keep.rf putA h).sv rfl _ _).sv rfl _ _).sv rfl _ _).sv rfl _ _).sv rfl _ _).sv rfl _ _).sv rfl _ _).sv rfl _ _
  · rw [e8, sv_eq]; omega
  · intro i hi
    rw [e8, sv_ne (by decide), e7, sv_nf (by omega), e6, sv_ne (by decide), e5, sv_nf (by omega), e4, sv_ne (by decide), e3, sv_nf (by omega), e2, sv_ne (by decide), e1, sv_nf (by omega)]
  · intro j j0 j4
    rcases (show j = 0 ∨ j = 1 ∨ j = 2 ∨ j = 3 by omega) with rfl | rfl | rfl | rfl
    · rw [e8, sv_ne (by decide), e7, sv_nf (by omega), e6, sv_ne (by decide), e5, sv_nf (by omega), e4, sv_ne (by decide), e3, sv_nf (by omega), e2, sv_ne (by decide), e1, Int.add_zero, sv_eq]; exact us_byt n 24 (by decide)
    · rw [e8, sv_ne (by decide), e7, sv_nf (by omega), e6, sv_ne (by decide), e5, sv_nf (by omega), e4, sv_ne (by decide), e3, sv_eq]; exact us_byt n 16 (by decide)
    · rw [e8, sv_ne (by decide), e7, sv_nf (by omega), e6, sv_ne (by decide), e5, show gv h 3 1 + 2 = gv h 3 1 + 1 + 1 by omega, sv_eq]; exact us_byt n 8 (by decide)
    · rw [e8, sv_ne (by decide), e7, show gv h 3 1 + 3 = gv h 3 1 + 1 + 1 + 1 by omega, sv_eq]; exact us_byt n 0 (by decide)

