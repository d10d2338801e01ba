/-! TOKENS of a text -/
theorem or64_addk (k : Nat) {x y : Int} (x0 : 0 ≤ x) (x1 : x * ((2 ^ k : Nat) : Int) < 4611686018427387904) (y0 : 0 ≤ y) (y1 : y < ((2 ^ k : Nat) : Int)) (yb : y < 4611686018427387904) : or64 (x * ((2 ^ k : Nat) : Int)) y = x * ((2 ^ k : Nat) : Int) + y := by
  have p0 : 0 ≤ x * ((2 ^ k : Nat) : Int) := Int.mul_nonneg x0 (Int.natCast_nonneg _)
  rw [or64_nat ⟨p0, x1⟩ ⟨y0, yb⟩]
  have h := Nat.two_pow_add_eq_or_of_lt (i := k) (b := y.toNat) (by omega) x.toNat
  have e : (x * ((2 ^ k : Nat) : Int)).toNat = 2 ^ k * x.toNat := by
    apply Int.ofNat.inj
    show (((x * ((2 ^ k : Nat) : Int)).toNat : Nat) : Int) = ((2 ^ k * x.toNat : Nat) : Int)
    rw [Int.toNat_of_nonneg p0, Int.natCast_mul, Int.toNat_of_nonneg x0, Int.mul_comm]
  rw [e, ← h, ← e, Int.natCast_add, Int.toNat_of_nonneg p0, Int.toNat_of_nonneg y0]
theorem or64_10 {x y : Int} (x0 : 0 ≤ x) (x1 : x < 1000000000) (y0 : 0 ≤ y) (y1 : y < 1024) : or64 (x * 1024) y = x * 1024 + y := or64_addk 10 x0 (by show x * 1024 < _; omega) y0 (by show y < 1024; exact y1) (by omega)
theorem or64_30 {x y : Int} (x0 : 0 ≤ x) (x1 : x < 1000000000) (y0 : 0 ≤ y) (y1 : y < 1073741824) : or64 (x * 1073741824) y = x * 1073741824 + y := or64_addk 30 x0 (by show x * 1073741824 < _; omega) y0 (by show y < 1073741824; exact y1) (by omega)
/-- kind, start, stop, value -/
abbrev Tok := Int × Int × Int × Int
def pk (t : Tok) : Int := ((t.1 * 1024 + t.2.1) * 1024 + t.2.2.1) * 1073741824 + t.2.2.2
def tokB (t : Tok) : Prop := (0 ≤ t.1 ∧ t.1 ≤ 5) ∧ (0 ≤ t.2.1 ∧ t.2.1 ≤ 700) ∧ (0 ≤ t.2.2.1 ∧ t.2.2.1 ≤ 700) ∧ 0 ≤ t.2.2.2 ∧ t.2.2.2 < 1073741824
def wdy (k : Int) : Prop := k = 1 ∨ k = 2
noncomputable def knd (kb pb s k : Int) : Int := @ite _ (wdy k ∧ wdy kb ∧ pb = s) (Classical.propDecidable _) 5 k
theorem knd_in {kb pb s k : Int} (h : 0 ≤ k ∧ k ≤ 5) : 0 ≤ knd kb pb s k ∧ knd kb pb s k ≤ 5 := by unfold knd; split <;> omega
def TkH (h : PH) (L : List Tok) : Prop := gv h 16 2 = L.length ∧ ∀ (j : Nat) t, L[j]? = some t → gv h 17 j = pk t
def adT (a i : Int) : Bool := decide ((a = 16 ∧ (i = 2 ∨ i = 3 ∨ i = 4)) ∨ a = 17)
theorem snoc_getT {A : List Tok} {x w : Tok} {j : Nat} (h : (A ++ [x])[j]? = some w) : (j < A.length ∧ A[j]? = some w) ∨ (j = A.length ∧ w = x) := by
  by_cases y : j < A.length
  · rw [List.getElem?_append_left y] at h; exact Or.inl ⟨y, h⟩
  · rw [List.getElem?_append_right (by omega)] at h
    have y0 : j = A.length := by
      apply Decidable.byContradiction
      intro y0
      rw [List.getElem?_eq_none (by show 1 ≤ j - A.length; omega)] at h
      cases h
    rw [y0, Nat.sub_self] at h
    have h : some x = some w := h
    cases h
    exact Or.inr ⟨y0, rfl⟩
theorem x_add {d : Nat} {h : PH} {q : PQ} (S : Shape h) (k s e v : Int) {L : List Tok} (X : TkH h L) (l7 : L.length ≤ 700) (k5 : 0 ≤ k ∧ k ≤ 4) (sb : 0 ≤ s ∧ s ≤ 700) (eb : 0 ≤ e ∧ e ≤ 700) (vb : 0 ≤ v ∧ v < 1073741824)
    (K : ∀ h', (Keep adT h h' ∧ TkH h' (L ++ [(knd (gv h 16 3) (gv h 16 4) s k, s, e, v)]) ∧ gv h' 16 3 = knd (gv h 16 3) (gv h 16 4) s k ∧ gv h' 16 4 = e) → Shape h' → q none h') :
    Wp (d + 2) 0 0 M_X10_add 0 [some (.inr (.inr 16)), some (.inl k), some (.inl s), some (.inl e), some (.inl v), none] [] h q := by
  obtain ⟨x1, x2⟩ := X
  have J : ∀ (kk : Int) (w : Int), kk = knd (gv h 16 3) (gv h 16 4) s k → Wp (d + 2) 0 0 M_X10_add 43 [some (.inr (.inr 16)), some (.inl k), some (.inl s), some (.inl e), some (.inl v), some (.inl w)] [.inl kk, .inr (.inr 16)] h q := by
    intro kk w hk
    have kb := knd_in (kb := gv h 16 3) (pb := gv h 16 4) (s := s) (k := k) ⟨by omega, by omega⟩
    rw [← hk] at kb
    have o1 := or64_10 (x := kk) (y := s) (by omega) (by omega) (by omega) (by omega)
    have o2 := or64_10 (x := or64 (kk * 1024) s) (y := e) (by omega) (by omega) (by omega) (by omega)
    have o3 := or64_30 (x := or64 ((or64 (kk * 1024) s) * 1024) e) (y := v) (by omega) (by omega) (by omega) (by omega)
    refine p_putfi (j := 3) 46 rfl rfl rfl (fun z => absurd z (by decide)) (tg_16 S) rfl ?_
    refine p_nmh (fun y1 e1 => ?_)
    have S1 : Shape y1 := by rw [e1]; exact S.svF ff_16_3 _
    refine p_aload 47 rfl rfl rfl ?_
    refine p_iload 48 rfl rfl rfl ?_
    refine p_putfi (j := 4) 51 rfl rfl rfl (fun z => absurd z (by decide)) (tg_16 S1) rfl ?_
    refine p_nmh (fun y2 e2 => ?_)
    have S2 : Shape y2 := by rw [e2]; exact S1.svF ff_16_4 _
    refine p_aload 52 rfl rfl rfl ?_
    refine p_getfi (j := 2) (z := (L.length : Int)) 55 rfl rfl rfl (tg_16 S2) rfl (by rw [e2, sv_nf (by decide)]; rw [e1, sv_nf (by decide)]; exact x1) ?_
    refine p_aload 56 rfl rfl rfl ?_
    refine p_getfr (j := 1) (z := 17) 59 rfl rfl rfl (tg_16 S2) rfl (fi_16_1 S2) ?_
    refine p_alen (w := 701) 60 rfl rfl (by rw [(tg_17 S2)]; decide) (ln_17 S2) ?_
    refine p_ic_ge 63 124 rfl rfl rfl (fun c3 => ?_) (fun c3 => ?_)
    · skip
      refine p_ret rfl rfl ?_
      -- leaf 1: answer [] h=y2 e2,e1
      exfalso; omega
    · skip
      refine p_aload 64 rfl rfl rfl ?_
      refine p_getfr (j := 1) (z := 17) 67 rfl rfl rfl (tg_16 S2) rfl (fi_16_1 S2) ?_
      refine p_aload 68 rfl rfl rfl ?_
      refine p_getfi (j := 2) (z := (L.length : Int)) 71 rfl rfl rfl (tg_16 S2) rfl (by rw [e2, sv_nf (by decide)]; rw [e1, sv_nf (by decide)]; exact x1) ?_
      refine p_aload 72 rfl rfl rfl ?_
      refine p_getfi (j := 3) (z := kk) 75 rfl rfl rfl (tg_16 S2) rfl (by rw [e2, sv_nf (by decide)]; rw [e1]; exact sv_eq _ _ _ _) ?_
      refine p_i2l 76 rfl rfl ?_
      refine p_const 78 rfl rfl ?_
      refine p_lshl (z := kk * 1024) 79 rfl rfl (by decide) (by decide) (w64_id (x := kk * 1024) ⟨(by omega), (by omega)⟩) ?_
      refine p_iload 80 rfl rfl rfl ?_
      refine p_i2l 81 rfl rfl ?_
      refine p_lor (z := or64 (kk * 1024) s) 82 rfl rfl rfl ?_
      refine p_const 84 rfl rfl ?_
      refine p_lshl (z := (or64 (kk * 1024) s) * 1024) 85 rfl rfl (by decide) (by decide) (w64_id (x := (or64 (kk * 1024) s) * 1024) ⟨(by omega), (by omega)⟩) ?_
      refine p_iload 86 rfl rfl rfl ?_
      refine p_i2l 87 rfl rfl ?_
      refine p_lor (z := or64 ((or64 (kk * 1024) s) * 1024) e) 88 rfl rfl rfl ?_
      refine p_last (w := 701) 89 rfl rfl (by decide) (tg_17 S2) (ln_17 S2) (by omega) (by omega) ?_
      refine p_nmh (fun y4 e4 => ?_)
      have S4 : Shape y4 := by rw [e4]; exact S2.svA fa_17 _ _
      refine p_aload 90 rfl rfl rfl ?_
      refine p_getfr (j := 1) (z := 17) 93 rfl rfl rfl (tg_16 S4) rfl (fi_16_1 S4) ?_
      refine p_aload 94 rfl rfl rfl ?_
      refine p_getfi (j := 2) (z := (L.length : Int)) 97 rfl rfl rfl (tg_16 S4) rfl (by rw [e4, sv_ne (by decide)]; rw [e2, sv_nf (by decide)]; rw [e1, sv_nf (by decide)]; exact x1) ?_
      refine p_aload 98 rfl rfl rfl ?_
      refine p_getfr (j := 1) (z := 17) 101 rfl rfl rfl (tg_16 S4) rfl (fi_16_1 S4) ?_
      refine p_aload 102 rfl rfl rfl ?_
      refine p_getfi (j := 2) (z := (L.length : Int)) 105 rfl rfl rfl (tg_16 S4) rfl (by rw [e4, sv_ne (by decide)]; rw [e2, sv_nf (by decide)]; rw [e1, sv_nf (by decide)]; exact x1) ?_
      refine p_lald (w := 701) (z := or64 ((or64 (kk * 1024) s) * 1024) e) 106 rfl rfl (tg_17 S4) (ln_17 S4) (by omega) (by omega) (by rw [e4]; exact sv_eq _ _ _ _) ?_
      refine p_const 108 rfl rfl ?_
      refine p_lshl (z := (or64 ((or64 (kk * 1024) s) * 1024) e) * 1073741824) 109 rfl rfl (by decide) (by decide) (w64_id (x := (or64 ((or64 (kk * 1024) s) * 1024) e) * 1073741824) ⟨(by omega), (by omega)⟩) ?_
      refine p_iload 111 rfl rfl rfl ?_
      refine p_i2l 112 rfl rfl ?_
      refine p_lor (z := or64 ((or64 ((or64 (kk * 1024) s) * 1024) e) * 1073741824) v) 113 rfl rfl rfl ?_
      refine p_last (w := 701) 114 rfl rfl (by decide) (tg_17 S4) (ln_17 S4) (by omega) (by omega) ?_
      refine p_nmh (fun y5 e5 => ?_)
      have S5 : Shape y5 := by rw [e5]; exact S4.svA fa_17 _ _
      refine p_aload 115 rfl rfl rfl ?_
      refine p_dup 116 rfl rfl nl_r ?_
      refine p_getfi (j := 2) (z := (L.length : Int)) 119 rfl rfl rfl (tg_16 S5) rfl (by rw [e5, sv_ne (by decide)]; rw [e4, sv_ne (by decide)]; rw [e2, sv_nf (by decide)]; rw [e1, sv_nf (by decide)]; exact x1) ?_
      refine p_const 120 rfl rfl ?_
      refine p_iadd (z := (L.length : Int) + 1) 121 rfl rfl (w32_id ⟨(by omega), (by omega)⟩) ?_
      refine p_putfi (j := 2) 124 rfl rfl rfl (fun z => absurd z (by decide)) (tg_16 S5) rfl ?_
      refine p_nmh (fun y6 e6 => ?_)
      have S6 : Shape y6 := by rw [e6]; exact S5.svF ff_16_2 _
      refine p_ret rfl rfl ?_
      -- leaf 2: answer [] h=y6 e6,e5,e4,e2,e1
      refine K _ ⟨by rw [e6, e5, e4, e2, e1]; exact (((((Keep.rf _ _).sv rfl _).sv rfl _).sv rfl _).sv rfl _).sv rfl _, ⟨?_, fun j t hj => ?_⟩, ?_, ?_⟩ S6
      · rw [e6, sv_eq, List.length_append]; rfl
      · rw [e6, sv_ne (by decide), e5]
        rcases snoc_getT hj with ⟨j1, j2⟩ | ⟨j1, j2⟩
        · rw [sv_nf (by omega), e4, sv_nf (by omega), e2, sv_ne (by decide), e1, sv_ne (by decide)]; exact x2 j t j2
        · rw [j1, sv_eq, j2, ← hk]
          show _ = ((kk * 1024 + s) * 1024 + e) * 1073741824 + v
          omega
      · rw [e6, sv_nf (by decide), e5, sv_ne (by decide), e4, sv_ne (by decide), e2, sv_nf (by decide), e1, sv_eq]; exact hk
      · rw [e6, sv_nf (by decide), e5, sv_ne (by decide), e4, sv_ne (by decide), e2, sv_eq]
  refine p_iload 1 rfl rfl rfl ?_
  refine p_calls (le := [some (.inl k)]) (as := [.inl k]) (rest := []) 4 0 0 0 0 rfl rfl (Nat.le_of_ble_eq_true rfl) rfl (Nat.le_of_ble_eq_true rfl) rfl rfl (Nat.le_of_ble_eq_true rfl) rfl (Nat.le_of_ble_eq_true rfl) rfl (Nat.le_refl _) (Nat.le_refl _) rfl rfl ?_
  refine p_iload 1 rfl rfl rfl ?_
  refine p_const 2 rfl rfl ?_
  refine p_ic_eq 5 10 rfl rfl rfl (fun c1 => ?_) (fun c1 => ?_)
  · skip
    refine p_const 11 rfl rfl ?_
    refine p_goto 15 rfl rfl ?_
    refine p_zret rfl rfl (by decide) ?_
    show Wp (d + 2) 0 0 M_X10_add 4 [some (.inr (.inr 16)), some (.inl k), some (.inl s), some (.inl e), some (.inl v), none] [.inl 1] h _
    refine p_if_eq_f 7 rfl rfl (by decide) ?_
    refine p_aload 8 rfl rfl rfl ?_
    refine p_getfi (j := 3) (z := gv h 16 3) 11 rfl rfl rfl (tg_16 S) rfl rfl ?_
    refine p_calls (le := [some (.inl (gv h 16 3))]) (as := [.inl (gv h 16 3)]) (rest := []) 14 0 0 0 0 rfl rfl (Nat.le_of_ble_eq_true rfl) rfl (Nat.le_of_ble_eq_true rfl) rfl rfl (Nat.le_of_ble_eq_true rfl) rfl (Nat.le_of_ble_eq_true rfl) rfl (Nat.le_refl _) (Nat.le_refl _) rfl rfl ?_
    refine p_iload 1 rfl rfl rfl ?_
    refine p_const 2 rfl rfl ?_
    refine p_ic_eq 5 10 rfl rfl rfl (fun c2 => ?_) (fun c2 => ?_)
    · skip
      refine p_const 11 rfl rfl ?_
      refine p_goto 15 rfl rfl ?_
      refine p_zret rfl rfl (by decide) ?_
      show Wp (d + 2) 0 0 M_X10_add 14 [some (.inr (.inr 16)), some (.inl k), some (.inl s), some (.inl e), some (.inl v), none] [.inl 1] h _
      refine p_if_eq_f 17 rfl rfl (by decide) ?_
      refine p_aload 18 rfl rfl rfl ?_
      refine p_getfi (j := 4) (z := gv h 16 4) 21 rfl rfl rfl (tg_16 S) rfl rfl ?_
      refine p_iload 22 rfl rfl rfl ?_
      refine p_ic_ne 25 29 rfl rfl rfl (fun c3 => ?_) (fun c3 => ?_)
      · skip
        refine p_const 30 rfl rfl ?_
        refine p_istore (ls' := [some (.inr (.inr 16)), some (.inl k), some (.inl s), some (.inl e), some (.inl v), some (.inl 0)]) 32 rfl rfl (Nat.le_of_ble_eq_true rfl) rfl ?_
        refine p_aload 33 rfl rfl rfl ?_
        refine p_iload 35 rfl rfl rfl ?_
        refine p_if_eq_t 42 rfl rfl (by decide) ?_
        refine p_iload 43 rfl rfl rfl ?_
        -- leaf 1: loop 43 [some (.inr (.inr 16)), some (.inl k), some (.inl s), some (.inl e), some (.inl v), some (.inl 0)] st=[.inl k, .inr (.inr 16)] h=h 
        refine J _ _ ?_; unfold knd wdy; first | (rw [if_neg (by omega)]) | (rw [if_pos (by omega)])
      · skip
        refine p_const 26 rfl rfl ?_
        refine p_goto 30 rfl rfl ?_
        refine p_istore (ls' := [some (.inr (.inr 16)), some (.inl k), some (.inl s), some (.inl e), some (.inl v), some (.inl 1)]) 32 rfl rfl (Nat.le_of_ble_eq_true rfl) rfl ?_
        refine p_aload 33 rfl rfl rfl ?_
        refine p_iload 35 rfl rfl rfl ?_
        refine p_if_eq_f 38 rfl rfl (by decide) ?_
        refine p_const 39 rfl rfl ?_
        refine p_goto 43 rfl rfl ?_
        -- leaf 2: loop 43 [some (.inr (.inr 16)), some (.inl k), some (.inl s), some (.inl e), some (.inl v), some (.inl 1)] st=[.inl 5, .inr (.inr 16)] h=h 
        refine J _ _ ?_; unfold knd wdy; first | (rw [if_neg (by omega)]) | (rw [if_pos (by omega)])
    · skip
      refine p_iload 6 rfl rfl rfl ?_
      refine p_const 7 rfl rfl ?_
      refine p_ic_ne 10 14 rfl rfl rfl (fun c4 => ?_) (fun c4 => ?_)
      · skip
        refine p_const 15 rfl rfl ?_
        refine p_zret rfl rfl (by decide) ?_
        show Wp (d + 2) 0 0 M_X10_add 14 [some (.inr (.inr 16)), some (.inl k), some (.inl s), some (.inl e), some (.inl v), none] [.inl 0] h _
        refine p_if_eq_t 29 rfl rfl (by decide) ?_
        refine p_const 30 rfl rfl ?_
        refine p_istore (ls' := [some (.inr (.inr 16)), some (.inl k), some (.inl s), some (.inl e), some (.inl v), some (.inl 0)]) 32 rfl rfl (Nat.le_of_ble_eq_true rfl) rfl ?_
        refine p_aload 33 rfl rfl rfl ?_
        refine p_iload 35 rfl rfl rfl ?_
        refine p_if_eq_t 42 rfl rfl (by decide) ?_
        refine p_iload 43 rfl rfl rfl ?_
        -- leaf 3: loop 43 [some (.inr (.inr 16)), some (.inl k), some (.inl s), some (.inl e), some (.inl v), some (.inl 0)] st=[.inl k, .inr (.inr 16)] h=h 
        refine J _ _ ?_; unfold knd wdy; first | (rw [if_neg (by omega)]) | (rw [if_pos (by omega)])
      · skip
        refine p_const 11 rfl rfl ?_
        refine p_goto 15 rfl rfl ?_
        refine p_zret rfl rfl (by decide) ?_
        show Wp (d + 2) 0 0 M_X10_add 14 [some (.inr (.inr 16)), some (.inl k), some (.inl s), some (.inl e), some (.inl v), none] [.inl 1] h _
        refine p_if_eq_f 17 rfl rfl (by decide) ?_
        refine p_aload 18 rfl rfl rfl ?_
        refine p_getfi (j := 4) (z := gv h 16 4) 21 rfl rfl rfl (tg_16 S) rfl rfl ?_
        refine p_iload 22 rfl rfl rfl ?_
        refine p_ic_ne 25 29 rfl rfl rfl (fun c5 => ?_) (fun c5 => ?_)
        · skip
          refine p_const 30 rfl rfl ?_
          refine p_istore (ls' := [some (.inr (.inr 16)), some (.inl k), some (.inl s), some (.inl e), some (.inl v), some (.inl 0)]) 32 rfl rfl (Nat.le_of_ble_eq_true rfl) rfl ?_
          refine p_aload 33 rfl rfl rfl ?_
          refine p_iload 35 rfl rfl rfl ?_
          refine p_if_eq_t 42 rfl rfl (by decide) ?_
          refine p_iload 43 rfl rfl rfl ?_
          -- leaf 4: loop 43 [some (.inr (.inr 16)), some (.inl k), some (.inl s), some (.inl e), some (.inl v), some (.inl 0)] st=[.inl k, .inr (.inr 16)] h=h 
          refine J _ _ ?_; unfold knd wdy; first | (rw [if_neg (by omega)]) | (rw [if_pos (by omega)])
        · skip
          refine p_const 26 rfl rfl ?_
          refine p_goto 30 rfl rfl ?_
          refine p_istore (ls' := [some (.inr (.inr 16)), some (.inl k), some (.inl s), some (.inl e), some (.inl v), some (.inl 1)]) 32 rfl rfl (Nat.le_of_ble_eq_true rfl) rfl ?_
          refine p_aload 33 rfl rfl rfl ?_
          refine p_iload 35 rfl rfl rfl ?_
          refine p_if_eq_f 38 rfl rfl (by decide) ?_
          refine p_const 39 rfl rfl ?_
          refine p_goto 43 rfl rfl ?_
          -- leaf 5: loop 43 [some (.inr (.inr 16)), some (.inl k), some (.inl s), some (.inl e), some (.inl v), some (.inl 1)] st=[.inl 5, .inr (.inr 16)] h=h 
          refine J _ _ ?_; unfold knd wdy; first | (rw [if_neg (by omega)]) | (rw [if_pos (by omega)])
  · skip
    refine p_iload 6 rfl rfl rfl ?_
    refine p_const 7 rfl rfl ?_
    refine p_ic_ne 10 14 rfl rfl rfl (fun c6 => ?_) (fun c6 => ?_)
    · skip
      refine p_const 15 rfl rfl ?_
      refine p_zret rfl rfl (by decide) ?_
      show Wp (d + 2) 0 0 M_X10_add 4 [some (.inr (.inr 16)), some (.inl k), some (.inl s), some (.inl e), some (.inl v), none] [.inl 0] h _
      refine p_if_eq_t 29 rfl rfl (by decide) ?_
      refine p_const 30 rfl rfl ?_
      refine p_istore (ls' := [some (.inr (.inr 16)), some (.inl k), some (.inl s), some (.inl e), some (.inl v), some (.inl 0)]) 32 rfl rfl (Nat.le_of_ble_eq_true rfl) rfl ?_
      refine p_aload 33 rfl rfl rfl ?_
      refine p_iload 35 rfl rfl rfl ?_
      refine p_if_eq_t 42 rfl rfl (by decide) ?_
      refine p_iload 43 rfl rfl rfl ?_
      -- leaf 6: loop 43 [some (.inr (.inr 16)), some (.inl k), some (.inl s), some (.inl e), some (.inl v), some (.inl 0)] st=[.inl k, .inr (.inr 16)] h=h 
      refine J _ _ ?_; unfold knd wdy; first | (rw [if_neg (by omega)]) | (rw [if_pos (by omega)])
    · skip
      refine p_const 11 rfl rfl ?_
      refine p_goto 15 rfl rfl ?_
      refine p_zret rfl rfl (by decide) ?_
      show Wp (d + 2) 0 0 M_X10_add 4 [some (.inr (.inr 16)), some (.inl k), some (.inl s), some (.inl e), some (.inl v), none] [.inl 1] h _
      refine p_if_eq_f 7 rfl rfl (by decide) ?_
      refine p_aload 8 rfl rfl rfl ?_
      refine p_getfi (j := 3) (z := gv h 16 3) 11 rfl rfl rfl (tg_16 S) rfl rfl ?_
      refine p_calls (le := [some (.inl (gv h 16 3))]) (as := [.inl (gv h 16 3)]) (rest := []) 14 0 0 0 0 rfl rfl (Nat.le_of_ble_eq_true rfl) rfl (Nat.le_of_ble_eq_true rfl) rfl rfl (Nat.le_of_ble_eq_true rfl) rfl (Nat.le_of_ble_eq_true rfl) rfl (Nat.le_refl _) (Nat.le_refl _) rfl rfl ?_
      refine p_iload 1 rfl rfl rfl ?_
      refine p_const 2 rfl rfl ?_
      refine p_ic_eq 5 10 rfl rfl rfl (fun c7 => ?_) (fun c7 => ?_)
      · skip
        refine p_const 11 rfl rfl ?_
        refine p_goto 15 rfl rfl ?_
        refine p_zret rfl rfl (by decide) ?_
        show Wp (d + 2) 0 0 M_X10_add 14 [some (.inr (.inr 16)), some (.inl k), some (.inl s), some (.inl e), some (.inl v), none] [.inl 1] h _
        refine p_if_eq_f 17 rfl rfl (by decide) ?_
        refine p_aload 18 rfl rfl rfl ?_
        refine p_getfi (j := 4) (z := gv h 16 4) 21 rfl rfl rfl (tg_16 S) rfl rfl ?_
        refine p_iload 22 rfl rfl rfl ?_
        refine p_ic_ne 25 29 rfl rfl rfl (fun c8 => ?_) (fun c8 => ?_)
        · skip
          refine p_const 30 rfl rfl ?_
          refine p_istore (ls' := [some (.inr (.inr 16)), some (.inl k), some (.inl s), some (.inl e), some (.inl v), some (.inl 0)]) 32 rfl rfl (Nat.le_of_ble_eq_true rfl) rfl ?_
          refine p_aload 33 rfl rfl rfl ?_
          refine p_iload 35 rfl rfl rfl ?_
          refine p_if_eq_t 42 rfl rfl (by decide) ?_
          refine p_iload 43 rfl rfl rfl ?_
          -- leaf 7: loop 43 [some (.inr (.inr 16)), some (.inl k), some (.inl s), some (.inl e), some (.inl v), some (.inl 0)] st=[.inl k, .inr (.inr 16)] h=h 
          refine J _ _ ?_; unfold knd wdy; first | (rw [if_neg (by omega)]) | (rw [if_pos (by omega)])
        · skip
          refine p_const 26 rfl rfl ?_
          refine p_goto 30 rfl rfl ?_
          refine p_istore (ls' := [some (.inr (.inr 16)), some (.inl k), some (.inl s), some (.inl e), some (.inl v), some (.inl 1)]) 32 rfl rfl (Nat.le_of_ble_eq_true rfl) rfl ?_
          refine p_aload 33 rfl rfl rfl ?_
          refine p_iload 35 rfl rfl rfl ?_
          refine p_if_eq_f 38 rfl rfl (by decide) ?_
          refine p_const 39 rfl rfl ?_
          refine p_goto 43 rfl rfl ?_
          -- leaf 8: loop 43 [some (.inr (.inr 16)), some (.inl k), some (.inl s), some (.inl e), some (.inl v), some (.inl 1)] st=[.inl 5, .inr (.inr 16)] h=h 
          refine J _ _ ?_; unfold knd wdy; first | (rw [if_neg (by omega)]) | (rw [if_pos (by omega)])
      · skip
        refine p_iload 6 rfl rfl rfl ?_
        refine p_const 7 rfl rfl ?_
        refine p_ic_ne 10 14 rfl rfl rfl (fun c9 => ?_) (fun c9 => ?_)
        · skip
          refine p_const 15 rfl rfl ?_
          refine p_zret rfl rfl (by decide) ?_
          show Wp (d + 2) 0 0 M_X10_add 14 [some (.inr (.inr 16)), some (.inl k), some (.inl s), some (.inl e), some (.inl v), none] [.inl 0] h _
          refine p_if_eq_t 29 rfl rfl (by decide) ?_
          refine p_const 30 rfl rfl ?_
          refine p_istore (ls' := [some (.inr (.inr 16)), some (.inl k), some (.inl s), some (.inl e), some (.inl v), some (.inl 0)]) 32 rfl rfl (Nat.le_of_ble_eq_true rfl) rfl ?_
          refine p_aload 33 rfl rfl rfl ?_
          refine p_iload 35 rfl rfl rfl ?_
          refine p_if_eq_t 42 rfl rfl (by decide) ?_
          refine p_iload 43 rfl rfl rfl ?_
          -- leaf 9: loop 43 [some (.inr (.inr 16)), some (.inl k), some (.inl s), some (.inl e), some (.inl v), some (.inl 0)] st=[.inl k, .inr (.inr 16)] h=h 
          refine J _ _ ?_; unfold knd wdy; first | (rw [if_neg (by omega)]) | (rw [if_pos (by omega)])
        · skip
          refine p_const 11 rfl rfl ?_
          refine p_goto 15 rfl rfl ?_
          refine p_zret rfl rfl (by decide) ?_
          show Wp (d + 2) 0 0 M_X10_add 14 [some (.inr (.inr 16)), some (.inl k), some (.inl s), some (.inl e), some (.inl v), none] [.inl 1] h _
          refine p_if_eq_f 17 rfl rfl (by decide) ?_
          refine p_aload 18 rfl rfl rfl ?_
          refine p_getfi (j := 4) (z := gv h 16 4) 21 rfl rfl rfl (tg_16 S) rfl rfl ?_
          refine p_iload 22 rfl rfl rfl ?_
          refine p_ic_ne 25 29 rfl rfl rfl (fun c10 => ?_) (fun c10 => ?_)
          · skip
            refine p_const 30 rfl rfl ?_
            refine p_istore (ls' := [some (.inr (.inr 16)), some (.inl k), some (.inl s), some (.inl e), some (.inl v), some (.inl 0)]) 32 rfl rfl (Nat.le_of_ble_eq_true rfl) rfl ?_
            refine p_aload 33 rfl rfl rfl ?_
            refine p_iload 35 rfl rfl rfl ?_
            refine p_if_eq_t 42 rfl rfl (by decide) ?_
            refine p_iload 43 rfl rfl rfl ?_
            -- leaf 10: loop 43 [some (.inr (.inr 16)), some (.inl k), some (.inl s), some (.inl e), some (.inl v), some (.inl 0)] st=[.inl k, .inr (.inr 16)] h=h 
            refine J _ _ ?_; unfold knd wdy; first | (rw [if_neg (by omega)]) | (rw [if_pos (by omega)])
          · skip
            refine p_const 26 rfl rfl ?_
            refine p_goto 30 rfl rfl ?_
            refine p_istore (ls' := [some (.inr (.inr 16)), some (.inl k), some (.inl s), some (.inl e), some (.inl v), some (.inl 1)]) 32 rfl rfl (Nat.le_of_ble_eq_true rfl) rfl ?_
            refine p_aload 33 rfl rfl rfl ?_
            refine p_iload 35 rfl rfl rfl ?_
            refine p_if_eq_f 38 rfl rfl (by decide) ?_
            refine p_const 39 rfl rfl ?_
            refine p_goto 43 rfl rfl ?_
            -- leaf 11: loop 43 [some (.inr (.inr 16)), some (.inl k), some (.inl s), some (.inl e), some (.inl v), some (.inl 1)] st=[.inl 5, .inr (.inr 16)] h=h 
            refine J _ _ ?_; unfold knd wdy; first | (rw [if_neg (by omega)]) | (rw [if_pos (by omega)])
/-- the number of k figures from p on -/
def nv (T : Int → Int) (p : Int) : Nat → Int
  | 0 => 0
  | k + 1 => nv T p k * 10 + T (p + k) - 48
theorem nv_in {T : Int → Int} {p : Int} : ∀ {k : Nat}, (∀ i, p ≤ i → i < p + k → isDig (T i)) → 0 ≤ nv T p k ∧ nv T p k < 10 ^ k
  | 0, _ => ⟨Int.le_refl 0, by show (0 : Int) < 1; decide⟩
  | k + 1, al => by
    have ih := nv_in (k := k) (fun i i0 i1 => al i i0 (by omega))
    have l := al (p + k) (by omega) (by omega)
    show 0 ≤ nv T p k * 10 + T (p + k) - 48 ∧ nv T p k * 10 + T (p + k) - 48 < 10 ^ (k + 1)
    rw [Int.pow_succ]
    exact ⟨by omega, by omega⟩
theorem x_number {d : Nat} {h : PH} {q : PQ} (S : Shape h) (p e : Int) {T : Int → Int} {n : Int} (O : TxO T n) (X : TxX h T n) (p0 : 0 ≤ p) (pe : p ≤ e) (en : e ≤ n) (e4 : e ≤ p + 4) (al : ∀ i, p ≤ i → i < e → isDig (T i)) (K : q (some (.inl (nv T p (e - p).toNat))) h) : Wp (d + 2) 0 0 M_X9_number 0 [some (.inr (.inr 3)), some (.inl p), some (.inl e), none, none] [] h q := by
  have n7 := O.1
  have J : ∀ (c k : Nat) (i : Int), i = p + k → i + c = e → Wp (d + 2) 0 0 M_X9_number 5 [some (.inr (.inr 3)), some (.inl p), some (.inl e), some (.inl (nv T p k)), some (.inl i)] [] h q := by
    intro c
    induction c with
    | zero =>
      intro k i hi he
      rw [show (e - p).toNat = k by omega] at K
      refine p_iload 7 rfl rfl rfl ?_
      refine p_iload 8 rfl rfl rfl ?_
      refine p_ic_ge_t 32 rfl rfl (by omega) ?_
      refine p_iload 33 rfl rfl rfl ?_
      refine p_iret rfl rfl ?_
      -- leaf 1: answer [.inl (nv T p k)] h=h 
      exact K
    | succ c ih =>
      intro k i hi he
      have wi := nv_in (T := T) (p := p) (k := k) (fun j j0 j1 => al j j0 (by omega))
      have li := al i (by omega) (by omega)
      have b4 : nv T p k < 10000 := by
        have h1 : (10 : Nat) ^ k ≤ 10 ^ 4 := Nat.pow_le_pow_right (by decide) (by omega)
        have e1 : ((10 ^ k : Nat) : Int) = 10 ^ k := Int.natCast_pow 10 k
        have e2 : (10 : Nat) ^ 4 = 10000 := by decide
        omega
      refine p_iload 7 rfl rfl rfl ?_
      refine p_iload 8 rfl rfl rfl ?_
      refine p_ic_ge_f 11 rfl rfl (by omega) ?_
      refine p_iload 12 rfl rfl rfl ?_
      refine p_const 14 rfl rfl ?_
      refine p_imul (z := (nv T p k) * 10) 15 rfl rfl (w32_id ⟨(by omega), (by omega)⟩) ?_
      refine p_aload 16 rfl rfl rfl ?_
      refine p_iload 18 rfl rfl rfl ?_
      refine p_callv (le := [some (.inr (.inr 3)), some (.inl i)]) (as := [.inr (.inr 3), .inl i]) (rest := [.inl ((nv T p k) * 10)]) 21 0 0 0 0 rfl rfl (Nat.le_of_ble_eq_true rfl) rfl (Nat.le_of_ble_eq_true rfl) rfl rfl (Nat.le_of_ble_eq_true rfl) rfl (Nat.le_of_ble_eq_true rfl) rfl (Nat.le_refl _) (Nat.le_refl _) rfl rfl (tg_3 S) ?_
      refine x_at S i O X ?_
      show Wp (d + 2) 0 0 M_X9_number 21 [some (.inr (.inr 3)), some (.inl p), some (.inl e), some (.inl (nv T p k)), some (.inl i)] [.inl (T i), .inl ((nv T p k) * 10)] h _
      refine p_iadd (z := ((nv T p k) * 10) + (T i)) 22 rfl rfl (w32_id ⟨(by omega), (by omega)⟩) ?_
      refine p_const 24 rfl rfl ?_
      refine p_isub (z := (((nv T p k) * 10) + (T i)) - 48) 25 rfl rfl (w32_id ⟨(by omega), (by omega)⟩) ?_
      refine p_istore (ls' := [some (.inr (.inr 3)), some (.inl p), some (.inl e), some (.inl ((((nv T p k) * 10) + (T i)) - 48)), some (.inl i)]) 26 rfl rfl (Nat.le_of_ble_eq_true rfl) rfl ?_
      refine p_iinc (y := i + 1) (ls' := [some (.inr (.inr 3)), some (.inl p), some (.inl e), some (.inl ((((nv T p k) * 10) + (T i)) - 48)), some (.inl (i + 1))]) 29 rfl rfl rfl (w32_id ⟨(by omega), (by omega)⟩) rfl ?_
      refine p_goto 5 rfl rfl ?_
      -- leaf 1: loop 5 [some (.inr (.inr 3)), some (.inl p), some (.inl e), some (.inl ((((nv T p k) * 10) + (T i)) - 48)), some (.inl (i + 1))] st=[] h=h 
      have z := ih (k + 1) (i + 1) (by omega) (by omega)
      have ew : nv T p (k + 1) = nv T p k * 10 + T i - 48 := by rw [hi]; rfl
      rw [ew] at z; exact z
  refine p_const 1 rfl rfl ?_
  refine p_istore (ls' := [some (.inr (.inr 3)), some (.inl p), some (.inl e), some (.inl 0), none]) 2 rfl rfl (Nat.le_of_ble_eq_true rfl) rfl ?_
  refine p_iload 3 rfl rfl rfl ?_
  refine p_istore (ls' := [some (.inr (.inr 3)), some (.inl p), some (.inl e), some (.inl 0), some (.inl p)]) 5 rfl rfl (Nat.le_of_ble_eq_true rfl) rfl ?_
  -- leaf 1: loop 5 [some (.inr (.inr 3)), some (.inl p), some (.inl e), some (.inl 0), some (.inl p)] st=[] h=h 
  exact J (e - p).toNat 0 p (by omega) (by omega)

