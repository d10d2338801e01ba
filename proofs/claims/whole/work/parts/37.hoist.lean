/-! HOIST: the hoist a ship makes of a row of letters -/
def rp (u v n k : Int) : Nat → Int → Int
  | 0, _ => 0
  | c + 1, r => if bit u (26 + r) = 0 ∧ sg v n (r - 1) = sg v n k then 26 + r else rp u v n k c (r + 1)
theorem rp_in (u v n k : Int) : ∀ (c : Nat) (r : Int), 1 ≤ r → rp u v n k c r = 0 ∨ (26 + r ≤ rp u v n k c r ∧ rp u v n k c r < 26 + r + c)
  | 0, _, _ => Or.inl rfl
  | c + 1, r, h => by
    have z := rp_in u v n k c (r + 1) (by omega)
    unfold rp
    split
    · exact Or.inr (by omega)
    · omega
def hs (u v n k L R : Int) : Int := if bit u (sg v n k) = 0 ∧ bit L (sg v n k - 1) = 0 then sg v n k else rp u v n k (min R k).toNat 1
theorem cutrow {v n k j : Int} (j0 : 0 ≤ j) (jk : j ≤ k) (kn : k < n) : sg (v / 2 ^ (5 * (n - 1 - k)).toNat) (k + 1) j = sg v n j := by
  unfold sg
  rw [Int.ediv_ediv_of_nonneg (Int.pow_nonneg (by decide)), ← Int.pow_add]
  rw [show (5 * (n - 1 - k)).toNat + (5 * (k + 1 - 1 - j)).toNat = (5 * (n - 1 - j)).toNat by omega]
theorem x_rep_loop {d : Nat} {h : PH} {q : PQ} (S : Shape h) (s z k u v n : Int) (s0 : 0 ≤ s) (s1 : s < 10) (kn : k < n) (n4 : n ≤ 4) (hz : z = v / 2 ^ (5 * (n - 1 - k)).toNat) (R0 : 0 ≤ gv h 7 s) (R3 : gv h 7 s ≤ 3) :
    ∀ (c : Nat) (r : Int) (w : Option PV), r + c = min (gv h 7 s) k + 1 → 1 ≤ r → (∀ y, (rp u v n k c r = 0 → y = -1) → (rp u v n k c r ≠ 0 → y = rp u v n k c r) → q (some (.inl y)) h) →
      Wp (d + 2) 0 0 M_X8_repeaterFor 3 [some (.inr (.inr 5)), some (.inl s), some (.inl z), some (.inl k), some (.inl u), some (.inl r), w] [] h q := by
  intro c
  induction c with
  | zero =>
    intro r w hr r1 K
    refine p_iload 5 rfl rfl rfl ?_
    refine p_aload 6 rfl rfl rfl ?_
    refine p_getfr (j := 1) (z := 7) 9 rfl rfl rfl (tg_5 S) rfl (fi_5_1 S) ?_
    refine p_iload 10 rfl rfl rfl ?_
    refine p_iald (w := 10) (z := gv h 7 s) 11 rfl rfl (tg_7 S) (ln_7 S) (by omega) (by omega) rfl ?_
    refine p_ic_gt 14 75 rfl rfl rfl (fun c1 => ?_) (fun c1 => ?_)
    · skip
      refine p_const 76 rfl rfl ?_
      refine p_iret rfl rfl ?_
      -- leaf 1: answer [.inl (-1)] h=h
      exact K _ (fun _ => rfl) (fun z => absurd rfl z)
    · skip
      refine p_iload 16 rfl rfl rfl ?_
      refine p_iload 17 rfl rfl rfl ?_
      refine p_ic_gt_t 75 rfl rfl (by omega) ?_
      refine p_const 76 rfl rfl ?_
      refine p_iret rfl rfl ?_
      -- leaf 2: answer [.inl (-1)] h=h
      exact K _ (fun _ => rfl) (fun z => absurd rfl z)
  | succ c ih =>
    intro r w hr r1 K
    have e1 := cutrow (v := v) (n := n) (k := k) (j := r - 1) (by omega) (by omega) kn
    rw [← hz] at e1
    have e2 : z % 32 = sg v n k := by rw [hz]; rfl
    refine p_iload 5 rfl rfl rfl ?_
    refine p_aload 6 rfl rfl rfl ?_
    refine p_getfr (j := 1) (z := 7) 9 rfl rfl rfl (tg_5 S) rfl (fi_5_1 S) ?_
    refine p_iload 10 rfl rfl rfl ?_
    refine p_iald (w := 10) (z := gv h 7 s) 11 rfl rfl (tg_7 S) (ln_7 S) (by omega) (by omega) rfl ?_
    refine p_ic_gt_f 14 rfl rfl (by omega) ?_
    refine p_iload 16 rfl rfl rfl ?_
    refine p_iload 17 rfl rfl rfl ?_
    refine p_ic_gt_f 20 rfl rfl (by omega) ?_
    refine p_iload 22 rfl rfl rfl ?_
    refine p_const 24 rfl rfl ?_
    refine p_iload 26 rfl rfl rfl ?_
    refine p_iadd (z := 26 + r) 27 rfl rfl (w32_id ⟨(by omega), (by omega)⟩) ?_
    refine p_ishr (z := u / 2 ^ (26 + r).toNat) 28 rfl rfl (by omega) (by omega) rfl ?_
    refine p_const 29 rfl rfl ?_
    refine p_iand (z := (u / 2 ^ (26 + r).toNat) % 2) 30 rfl rfl (mask32 1 rfl (by decide)) ?_
    refine p_if_ne 33 37 rfl rfl rfl (fun c1 => ?_) (fun c1 => ?_)
    · skip
      refine p_const 38 rfl rfl ?_
      refine p_istore (ls' := [some (.inr (.inr 5)), some (.inl s), some (.inl z), some (.inl k), some (.inl u), some (.inl r), some (.inl 0)]) 40 rfl rfl (Nat.le_of_ble_eq_true rfl) rfl ?_
      refine p_iload 42 rfl rfl rfl ?_
      refine p_if_eq_t 69 rfl rfl (by decide) ?_
      refine p_iinc (y := r + 1) (ls' := [some (.inr (.inr 5)), some (.inl s), some (.inl z), some (.inl k), some (.inl u), some (.inl (r + 1)), some (.inl 0)]) 72 rfl rfl rfl (w32_id ⟨(by omega), (by omega)⟩) rfl ?_
      refine p_goto 3 rfl rfl ?_
      -- leaf 1: loop 3 [some (.inr (.inr 5)), some (.inl s), some (.inl z), some (.inl k), some (.inl u), some (.inl (r + 1)), some (.inl 0)] st=[] h=h
      exact ih (r + 1) _ (by omega) (by omega) (by rw [show rp u v n k (c + 1) r = rp u v n k c (r + 1) by unfold rp; rw [if_neg (fun g => c1 g.1)]; cases c <;> rfl] at K; exact K)
    · skip
      refine p_const 34 rfl rfl ?_
      refine p_goto 38 rfl rfl ?_
      refine p_istore (ls' := [some (.inr (.inr 5)), some (.inl s), some (.inl z), some (.inl k), some (.inl u), some (.inl r), some (.inl 1)]) 40 rfl rfl (Nat.le_of_ble_eq_true rfl) rfl ?_
      refine p_iload 42 rfl rfl rfl ?_
      refine p_if_eq_f 45 rfl rfl (by decide) ?_
      refine p_iload 46 rfl rfl rfl ?_
      refine p_iload 47 rfl rfl rfl ?_
      refine p_const 48 rfl rfl ?_
      refine p_iadd (z := k + 1) 49 rfl rfl (w32_id ⟨(by omega), (by omega)⟩) ?_
      refine p_iload 51 rfl rfl rfl ?_
      refine p_const 52 rfl rfl ?_
      refine p_isub (z := r - 1) 53 rfl rfl (w32_id ⟨(by omega), (by omega)⟩) ?_
      refine p_calls (le := [some (.inl z), some (.inl (k + 1)), some (.inl (r - 1))]) (as := [.inl z, .inl (k + 1), .inl (r - 1)]) (rest := []) 56 0 0 0 0 rfl rfl (Nat.le_of_ble_eq_true rfl) rfl (Nat.le_of_ble_eq_true rfl) rfl rfl (Nat.le_of_ble_eq_true rfl) rfl (Nat.le_of_ble_eq_true rfl) rfl (Nat.le_refl _) (Nat.le_refl _) rfl rfl ?_
      refine x_sg S z (k + 1) (r - 1) (by omega) (by omega) (by omega) (by omega) ?_
      show Wp (d + 2) 0 0 M_X8_repeaterFor 56 [some (.inr (.inr 5)), some (.inl s), some (.inl z), some (.inl k), some (.inl u), some (.inl r), some (.inl 1)] [.inl (sg z (k + 1) (r - 1))] h _
      refine p_iload 57 rfl rfl rfl ?_
      refine p_const 59 rfl rfl ?_
      refine p_iand (z := z % 32) 60 rfl rfl (mask32 5 rfl (by decide)) ?_
      refine p_ic_ne 63 69 rfl rfl rfl (fun c2 => ?_) (fun c2 => ?_)
      · skip
        refine p_iinc (y := r + 1) (ls' := [some (.inr (.inr 5)), some (.inl s), some (.inl z), some (.inl k), some (.inl u), some (.inl (r + 1)), some (.inl 1)]) 72 rfl rfl rfl (w32_id ⟨(by omega), (by omega)⟩) rfl ?_
        refine p_goto 3 rfl rfl ?_
        -- leaf 2: loop 3 [some (.inr (.inr 5)), some (.inl s), some (.inl z), some (.inl k), some (.inl u), some (.inl (r + 1)), some (.inl 1)] st=[] h=h
        exact ih (r + 1) _ (by omega) (by omega) (by rw [show rp u v n k (c + 1) r = rp u v n k c (r + 1) by unfold rp; rw [if_neg (fun g => c2 (by rw [e1, e2]; exact g.2))]; cases c <;> rfl] at K; exact K)
      · skip
        refine p_const 65 rfl rfl ?_
        refine p_iload 67 rfl rfl rfl ?_
        refine p_iadd (z := 26 + r) 68 rfl rfl (w32_id ⟨(by omega), (by omega)⟩) ?_
        refine p_iret rfl rfl ?_
        -- leaf 3: answer [.inl (26 + r)] h=h
        exact K _ (fun g => by rw [show rp u v n k (c + 1) r = 26 + r by unfold rp; rw [if_pos ⟨c1, by omega⟩]] at g; omega) (fun g => by unfold rp; rw [if_pos ⟨c1, by omega⟩])
theorem x_rep {d : Nat} {h : PH} {q : PQ} (S : Shape h) (s z k u : Int) {v n : Int} (s0 : 0 ≤ s) (s1 : s < 10) (k0 : 0 ≤ k) (kn : k < n) (n4 : n ≤ 4) (hz : z = v / 2 ^ (5 * (n - 1 - k)).toNat) (R0 : 0 ≤ gv h 7 s) (R3 : gv h 7 s ≤ 3)
    (K : ∀ y, (rp u v n k (min (gv h 7 s) k).toNat 1 = 0 → y = -1) ∧ (rp u v n k (min (gv h 7 s) k).toNat 1 ≠ 0 → y = rp u v n k (min (gv h 7 s) k).toNat 1) → q (some (.inl y)) h) :
    Wp (d + 2) 0 0 M_X8_repeaterFor 0 [some (.inr (.inr 5)), some (.inl s), some (.inl z), some (.inl k), some (.inl u), none, none] [] h q := by
  refine p_const 1 rfl rfl ?_
  refine p_istore (ls' := [some (.inr (.inr 5)), some (.inl s), some (.inl z), some (.inl k), some (.inl u), some (.inl 1), none]) 3 rfl rfl (Nat.le_of_ble_eq_true rfl) rfl ?_
  -- leaf 1: loop 3 [some (.inr (.inr 5)), some (.inl s), some (.inl z), some (.inl k), some (.inl u), some (.inl 1), none] st=[] h=h
  exact x_rep_loop S s z k u v n s0 s1 kn n4 hz R0 R3 (min (gv h 7 s) k).toNat 1 none (by omega) (Int.le_refl 1) (fun y a b => K y ⟨a, b⟩)
theorem or32_even {x y : Int} (hx : 0 ≤ x ∧ x < 2147483648) (hy : 0 ≤ y ∧ y < 2147483648) : or32 x y % 2 = 0 ↔ x % 2 = 0 ∧ y % 2 = 0 := by
  rw [or32_nat hx hy]
  have e : ((x.toNat ||| y.toNat) % 2 = 0) ↔ (x.toNat % 2 = 0 ∧ y.toNat % 2 = 0) := by
    have a := Nat.testBit_or x.toNat y.toNat 0
    rw [Nat.testBit_zero, Nat.testBit_zero, Nat.testBit_zero] at a
    have p := Nat.mod_two_eq_zero_or_one x.toNat
    have q := Nat.mod_two_eq_zero_or_one y.toNat
    have r := Nat.mod_two_eq_zero_or_one (x.toNat ||| y.toNat)
    rcases p with p | p <;> rcases q with q | q <;> rcases r with r | r <;> rw [p, q, r] at a ⊢ <;> first | decide | (exfalso; revert a; decide)
  omega
/-- the hoist made of the first k letters: the signs aloft, and the row -/
def hu (v n L R : Int) : Nat → Int
  | 0 => 0
  | k + 1 => or32 (hu v n L R k) (w32 (1 * 2 ^ (hs (hu v n L R k) v n k L R).toNat))
def hh (v n L R : Int) : Nat → Int
  | 0 => 0
  | k + 1 => hh v n L R k * 32 + hs (hu v n L R k) v n k L R
abbrev HoistR (v L R r : Int) : Prop := ((∀ k : Nat, (k : Int) < rl v → hs (hu v (rl v) L R k) v (rl v) k L R ≠ 0) ∧ r = hh v (rl v) L R (rl v).toNat) ∨ ((∃ k : Nat, (k : Int) < rl v ∧ hs (hu v (rl v) L R k) v (rl v) k L R = 0) ∧ r = -1)
theorem hs_in {u v n k L R : Int} (g : 0 ≤ sg v n k ∧ sg v n k ≤ 26) (R3 : R ≤ 3) : 0 ≤ hs u v n k L R ∧ hs u v n k L R ≤ 29 := by
  unfold hs
  have a := rp_in u v n k (min R k).toNat 1 (Int.le_refl 1)
  split <;> omega
theorem hu_in {v n L R : Int} (g : ∀ k : Nat, (k : Int) < n → 1 ≤ sg v n k ∧ sg v n k ≤ 26) (R3 : R ≤ 3) : ∀ k : Nat, (k : Int) ≤ n → 0 ≤ hu v n L R k ∧ hu v n L R k < 1073741824
  | 0, _ => by show (0 : Int) ≤ 0 ∧ (0 : Int) < 1073741824; decide
  | k + 1, hk => by
    have a := hu_in (L := L) g R3 k (by omega)
    have b := g k (by omega)
    have c := hs_in (u := hu v n L R k) (L := L) ⟨by omega, b.2⟩ R3
    exact or_in a.1 a.2 c.2
theorem hh_in {v n L R : Int} (g : ∀ k : Nat, (k : Int) < n → 1 ≤ sg v n k ∧ sg v n k ≤ 26) (R3 : R ≤ 3) : ∀ k : Nat, k ≤ 4 → (k : Int) ≤ n → 0 ≤ hh v n L R k ∧ hh v n L R k < 1048576 ∧ (k ≤ 3 → hh v n L R k < 32768) ∧ (k ≤ 2 → hh v n L R k < 1024) ∧ (k ≤ 1 → hh v n L R k < 32) ∧ (k = 0 → hh v n L R k = 0)
  | 0, _, _ => by show 0 ≤ (0 : Int) ∧ _; refine ⟨by omega, ?_⟩; show (0 : Int) < _ ∧ (_ → (0 : Int) < _) ∧ (_ → (0 : Int) < _) ∧ (_ → (0 : Int) < _) ∧ (_ → (0 : Int) = 0); omega
  | k + 1, h4, hk => by
    have a := hh_in (L := L) g R3 k (by omega) (by omega)
    have b := g k (by omega)
    have c := hs_in (u := hu v n L R k) (L := L) ⟨by omega, b.2⟩ R3
    rw [show hh v n L R (k + 1) = hh v n L R k * 32 + hs (hu v n L R k) v n k L R from rfl]
    omega
theorem x_hoist_loop {d : Nat} {h : PH} {q : PQ} (S : Shape h) (s v L R : Int) (s0 : 0 ≤ s) (s1 : s < 10) (hL : gv h 6 s = L) (hR : gv h 7 s = R) (L0 : 0 ≤ L) (L1 : L < 67108864) (R0 : 0 ≤ R) (R3 : R ≤ 3) (vp : 0 < rl v)
    (g : ∀ k : Nat, (k : Int) < rl v → 1 ≤ sg v (rl v) k ∧ sg v (rl v) k ≤ 26) (K : ∀ r, HoistR v L R r → q (some (.inl r)) h) :
    ∀ (c kk : Nat) (k u x : Int) (w : Option PV), k = kk → k + c = rl v → u = hu v (rl v) L R kk → x = hh v (rl v) L R kk → (∀ j : Nat, j < kk → hs (hu v (rl v) L R j) v (rl v) j L R ≠ 0) →
      Wp (d + 3) 0 0 M_X8_hoistFor 14 [some (.inr (.inr 5)), some (.inl s), some (.inl v), some (.inl (rl v)), some (.inl u), some (.inl x), some (.inl k), w] [] h q := by
  intro c
  have b := rl_in v
  induction c with
  | zero =>
    intro kk k u x w hk hc hu' hx ok
    refine p_iload 16 rfl rfl rfl ?_
    refine p_iload 17 rfl rfl rfl ?_
    refine p_ic_ge_t 104 rfl rfl (by omega) ?_
    refine p_iload 105 rfl rfl rfl ?_
    refine p_if_le_f 108 rfl rfl (by omega) ?_
    refine p_iload 110 rfl rfl rfl ?_
    refine p_goto 114 rfl rfl ?_
    refine p_iret rfl rfl ?_
    -- leaf 1: answer [.inl x] h=h
    exact K _ (Or.inl ⟨fun j hj => ok j (by omega), by rw [hx, show (rl v).toNat = kk by omega]⟩)
  | succ c ih =>
    intro kk k u x w hk hc hu' hx ok
    have gk := g kk (by omega)
    rw [← hk] at gk
    have ui := hu_in (L := L) g R3 kk (by omega)
    have xi := hh_in (L := L) g R3 kk (by omega) (by omega)
    rw [← hu'] at ui
    rw [← hx] at xi
    have hin := hs_in (u := u) (v := v) (n := rl v) (k := k) (L := L) (R := R) ⟨by omega, gk.2⟩ R3
    have k0 : 0 ≤ k := by omega
    have k1 : k < rl v := by omega
    have hsk : hs (hu v (rl v) L R kk) v (rl v) kk L R = hs u v (rl v) k L R := by rw [← hu', ← hk]
    have fin : ∀ (y : Int) (a : Option PV), y = hs u v (rl v) k L R → y ≠ 0 → Wp (d + 3) 0 0 M_X8_hoistFor 14 [some (.inr (.inr 5)), some (.inl s), some (.inl v), some (.inl (rl v)), some (.inl (or32 u (w32 (1 * 2 ^ y.toNat)))), some (.inl (or32 (x * 32) y)), some (.inl (k + 1)), a] [] h q := by
      intro y a hy y0
      refine ih (kk + 1) (k + 1) _ _ a (by omega) (by omega) ?_ ?_ ?_
      · rw [hy, ← hsk, hu']; rfl
      · rw [or32_add (by omega) (by omega) (by omega) (by omega), hy, ← hsk, hx]; rfl
      · intro j hj
        by_cases z : j = kk
        · rw [z, hsk, ← hy]; exact y0
        · exact ok j (by omega)
    have bad : hs u v (rl v) k L R = 0 → HoistR v L R (-1) := fun z => Or.inr ⟨⟨kk, by omega, by rw [hsk]; exact z⟩, rfl⟩
    have up : ∀ t : Int, 0 ≤ t → 0 ≤ u / 2 ^ t.toNat ∧ u / 2 ^ t.toNat < 2147483648 := fun t _ => ⟨Int.ediv_nonneg ui.1 (Int.pow_nonneg (by decide)), by have := Int.ediv_le_self (2 ^ t.toNat) ui.1; omega⟩
    have lp : ∀ t : Int, 0 ≤ t → 0 ≤ L / 2 ^ t.toNat ∧ L / 2 ^ t.toNat < 2147483648 := fun t _ => ⟨Int.ediv_nonneg L0 (Int.pow_nonneg (by decide)), by have := Int.ediv_le_self (2 ^ t.toNat) L0; omega⟩
    have ri := rp_in u v (rl v) k (min (gv h 7 s) k).toNat 1 (Int.le_refl 1)
    have cd : or32 (u / 2 ^ (sg v (rl v) k).toNat) (gv h 6 s / 2 ^ (sg v (rl v) k - 1).toNat) % 2 = 0 ↔ bit u (sg v (rl v) k) = 0 ∧ bit L (sg v (rl v) k - 1) = 0 := by
      rw [hL]; exact or32_even (up _ (by omega)) (lp _ (by omega))
    refine p_iload 16 rfl rfl rfl ?_
    refine p_iload 17 rfl rfl rfl ?_
    refine p_ic_ge_f 20 rfl rfl (by omega) ?_
    refine p_iload 21 rfl rfl rfl ?_
    refine p_iload 22 rfl rfl rfl ?_
    refine p_iload 24 rfl rfl rfl ?_
    refine p_calls (le := [some (.inl v), some (.inl (rl v)), some (.inl k)]) (as := [.inl v, .inl (rl v), .inl k]) (rest := []) 27 0 0 0 0 rfl rfl (Nat.le_of_ble_eq_true rfl) rfl (Nat.le_of_ble_eq_true rfl) rfl rfl (Nat.le_of_ble_eq_true rfl) rfl (Nat.le_of_ble_eq_true rfl) rfl (Nat.le_refl _) (Nat.le_refl _) rfl rfl ?_
    refine x_sg S v (rl v) k (by omega) (by omega) (by omega) (by omega) ?_
    show Wp (d + 3) 0 0 M_X8_hoistFor 27 [some (.inr (.inr 5)), some (.inl s), some (.inl v), some (.inl (rl v)), some (.inl u), some (.inl x), some (.inl k), w] [.inl (sg v (rl v) k)] h _
    refine p_istore (ls' := [some (.inr (.inr 5)), some (.inl s), some (.inl v), some (.inl (rl v)), some (.inl u), some (.inl x), some (.inl k), some (.inl (sg v (rl v) k))]) 29 rfl rfl (Nat.le_of_ble_eq_true rfl) rfl ?_
    refine p_iload 31 rfl rfl rfl ?_
    refine p_iload 33 rfl rfl rfl ?_
    refine p_ishr (z := u / 2 ^ (sg v (rl v) k).toNat) 34 rfl rfl (by omega) (by omega) rfl ?_
    refine p_aload 35 rfl rfl rfl ?_
    refine p_getfr (j := 0) (z := 6) 38 rfl rfl rfl (tg_5 S) rfl (fi_5_0 S) ?_
    refine p_iload 39 rfl rfl rfl ?_
    refine p_iald (w := 10) (z := gv h 6 s) 40 rfl rfl (tg_6 S) (ln_6 S) (by omega) (by omega) rfl ?_
    refine p_iload 42 rfl rfl rfl ?_
    refine p_const 43 rfl rfl ?_
    refine p_isub (z := (sg v (rl v) k) - 1) 44 rfl rfl (w32_id ⟨(by omega), (by omega)⟩) ?_
    refine p_ishr (z := (gv h 6 s) / 2 ^ ((sg v (rl v) k) - 1).toNat) 45 rfl rfl (by omega) (by omega) rfl ?_
    refine p_ior (z := or32 (u / 2 ^ (sg v (rl v) k).toNat) ((gv h 6 s) / 2 ^ ((sg v (rl v) k) - 1).toNat)) 46 rfl rfl rfl ?_
    refine p_const 47 rfl rfl ?_
    refine p_iand (z := (or32 (u / 2 ^ (sg v (rl v) k).toNat) ((gv h 6 s) / 2 ^ ((sg v (rl v) k) - 1).toNat)) % 2) 48 rfl rfl (mask32 1 rfl (by decide)) ?_
    refine p_if_eq 51 72 rfl rfl rfl (fun c1 => ?_) (fun c1 => ?_)
    · skip
      refine p_iload 74 rfl rfl rfl ?_
      refine p_const 75 rfl rfl ?_
      refine p_ic_ne 78 80 rfl rfl rfl (fun c2 => ?_) (fun c2 => ?_)
      · skip
        refine p_iload 82 rfl rfl rfl ?_
        refine p_const 83 rfl rfl ?_
        refine p_iload 85 rfl rfl rfl ?_
        refine p_ishl (z := w32 (1 * 2 ^ (sg v (rl v) k).toNat)) 86 rfl rfl (by omega) (by omega) rfl ?_
        refine p_ior (z := or32 u (w32 (1 * 2 ^ (sg v (rl v) k).toNat))) 87 rfl rfl rfl ?_
        refine p_istore (ls' := [some (.inr (.inr 5)), some (.inl s), some (.inl v), some (.inl (rl v)), some (.inl (or32 u (w32 (1 * 2 ^ (sg v (rl v) k).toNat)))), some (.inl x), some (.inl k), some (.inl (sg v (rl v) k))]) 89 rfl rfl (Nat.le_of_ble_eq_true rfl) rfl ?_
        refine p_iload 91 rfl rfl rfl ?_
        refine p_const 92 rfl rfl ?_
        refine p_ishl (z := x * 32) 93 rfl rfl (by decide) (by decide) (w32_id (x := x * 32) ⟨(by omega), (by omega)⟩) ?_
        refine p_iload 95 rfl rfl rfl ?_
        refine p_ior (z := or32 (x * 32) (sg v (rl v) k)) 96 rfl rfl rfl ?_
        refine p_istore (ls' := [some (.inr (.inr 5)), some (.inl s), some (.inl v), some (.inl (rl v)), some (.inl (or32 u (w32 (1 * 2 ^ (sg v (rl v) k).toNat)))), some (.inl (or32 (x * 32) (sg v (rl v) k))), some (.inl k), some (.inl (sg v (rl v) k))]) 98 rfl rfl (Nat.le_of_ble_eq_true rfl) rfl ?_
        refine p_iinc (y := k + 1) (ls' := [some (.inr (.inr 5)), some (.inl s), some (.inl v), some (.inl (rl v)), some (.inl (or32 u (w32 (1 * 2 ^ (sg v (rl v) k).toNat)))), some (.inl (or32 (x * 32) (sg v (rl v) k))), some (.inl (k + 1)), some (.inl (sg v (rl v) k))]) 101 rfl rfl rfl (w32_id ⟨(by omega), (by omega)⟩) rfl ?_
        refine p_goto 14 rfl rfl ?_
        -- leaf 1: loop 14 [some (.inr (.inr 5)), some (.inl s), some (.inl v), some (.inl (rl v)), some (.inl (or32 u (w32 (1 * 2 ^ (sg v (rl v) k).toNat)))), some (.inl (or32 (x * 32) (sg v (rl v) k))), some (.inl (k + 1)), some (.inl (sg v (rl v) k))] st=[] h=h
        exact fin _ _ (by unfold hs; rw [if_pos (cd.mp c1)]) (by omega)
      · skip
        refine p_const 79 rfl rfl ?_
        refine p_iret rfl rfl ?_
        -- leaf 2: answer [.inl (-1)] h=h
        omega
    · skip
      refine p_aload 52 rfl rfl rfl ?_
      refine p_iload 53 rfl rfl rfl ?_
      refine p_iload 54 rfl rfl rfl ?_
      refine p_const 55 rfl rfl ?_
      refine p_iload 56 rfl rfl rfl ?_
      refine p_const 57 rfl rfl ?_
      refine p_isub (z := (rl v) - 1) 58 rfl rfl (w32_id ⟨(by omega), (by omega)⟩) ?_
      refine p_iload 60 rfl rfl rfl ?_
      refine p_isub (z := ((rl v) - 1) - k) 61 rfl rfl (w32_id ⟨(by omega), (by omega)⟩) ?_
      refine p_imul (z := 5 * (((rl v) - 1) - k)) 62 rfl rfl (w32_id ⟨(by omega), (by omega)⟩) ?_
      refine p_ishr (z := v / 2 ^ (5 * (((rl v) - 1) - k)).toNat) 63 rfl rfl (by omega) (by omega) rfl ?_
      refine p_iload 65 rfl rfl rfl ?_
      refine p_iload 67 rfl rfl rfl ?_
      refine p_callv (le := [some (.inr (.inr 5)), some (.inl s), some (.inl (v / 2 ^ (5 * (((rl v) - 1) - k)).toNat)), some (.inl k), some (.inl u), none, none]) (as := [.inr (.inr 5), .inl s, .inl (v / 2 ^ (5 * (((rl v) - 1) - k)).toNat), .inl k, .inl u]) (rest := []) 70 0 0 0 0 rfl rfl (Nat.le_of_ble_eq_true rfl) rfl (Nat.le_of_ble_eq_true rfl) rfl rfl (Nat.le_of_ble_eq_true rfl) rfl (Nat.le_of_ble_eq_true rfl) rfl (Nat.le_refl _) (Nat.le_refl _) rfl rfl (tg_5 S) ?_
      refine x_rep S s (v / 2 ^ (5 * (((rl v) - 1) - k)).toNat) k u (by omega) (by omega) (by omega) (by omega) (by omega) (rfl) (by omega) (by omega) (fun r3 p3 => ?_)
      show Wp (d + 3) 0 0 M_X8_hoistFor 70 [some (.inr (.inr 5)), some (.inl s), some (.inl v), some (.inl (rl v)), some (.inl u), some (.inl x), some (.inl k), some (.inl (sg v (rl v) k))] [.inl r3] h _
      refine p_istore (ls' := [some (.inr (.inr 5)), some (.inl s), some (.inl v), some (.inl (rl v)), some (.inl u), some (.inl x), some (.inl k), some (.inl r3)]) 72 rfl rfl (Nat.le_of_ble_eq_true rfl) rfl ?_
      refine p_iload 74 rfl rfl rfl ?_
      refine p_const 75 rfl rfl ?_
      refine p_ic_ne 78 80 rfl rfl rfl (fun c4 => ?_) (fun c4 => ?_)
      · skip
        refine p_iload 82 rfl rfl rfl ?_
        refine p_const 83 rfl rfl ?_
        refine p_iload 85 rfl rfl rfl ?_
        refine p_ishl (z := w32 (1 * 2 ^ (r3).toNat)) 86 rfl rfl (by omega) (by omega) rfl ?_
        refine p_ior (z := or32 u (w32 (1 * 2 ^ (r3).toNat))) 87 rfl rfl rfl ?_
        refine p_istore (ls' := [some (.inr (.inr 5)), some (.inl s), some (.inl v), some (.inl (rl v)), some (.inl (or32 u (w32 (1 * 2 ^ (r3).toNat)))), some (.inl x), some (.inl k), some (.inl r3)]) 89 rfl rfl (Nat.le_of_ble_eq_true rfl) rfl ?_
        refine p_iload 91 rfl rfl rfl ?_
        refine p_const 92 rfl rfl ?_
        refine p_ishl (z := x * 32) 93 rfl rfl (by decide) (by decide) (w32_id (x := x * 32) ⟨(by omega), (by omega)⟩) ?_
        refine p_iload 95 rfl rfl rfl ?_
        refine p_ior (z := or32 (x * 32) r3) 96 rfl rfl rfl ?_
        refine p_istore (ls' := [some (.inr (.inr 5)), some (.inl s), some (.inl v), some (.inl (rl v)), some (.inl (or32 u (w32 (1 * 2 ^ (r3).toNat)))), some (.inl (or32 (x * 32) r3)), some (.inl k), some (.inl r3)]) 98 rfl rfl (Nat.le_of_ble_eq_true rfl) rfl ?_
        refine p_iinc (y := k + 1) (ls' := [some (.inr (.inr 5)), some (.inl s), some (.inl v), some (.inl (rl v)), some (.inl (or32 u (w32 (1 * 2 ^ (r3).toNat)))), some (.inl (or32 (x * 32) r3)), some (.inl (k + 1)), some (.inl r3)]) 101 rfl rfl rfl (w32_id ⟨(by omega), (by omega)⟩) rfl ?_
        refine p_goto 14 rfl rfl ?_
        -- leaf 3: loop 14 [some (.inr (.inr 5)), some (.inl s), some (.inl v), some (.inl (rl v)), some (.inl (or32 u (w32 (1 * 2 ^ (r3).toNat)))), some (.inl (or32 (x * 32) r3)), some (.inl (k + 1)), some (.inl r3)] st=[] h=h
        exact fin _ _ (by unfold hs; rw [if_neg (fun z => c1 (cd.mpr z)), ← hR]; omega) (by omega)
      · skip
        refine p_const 79 rfl rfl ?_
        refine p_iret rfl rfl ?_
        -- leaf 4: answer [.inl (-1)] h=h
        exact K _ (bad (by unfold hs; rw [if_neg (fun z => c1 (cd.mpr z)), ← hR]; omega))
abbrev letters (v : Int) : Prop := 0 < rl v ∧ ∀ k, 0 ≤ k → k < rl v → 1 ≤ sg v (rl v) k ∧ sg v (rl v) k ≤ 26
theorem x_hoistFor {d : Nat} {h : PH} {q : PQ} (S : Shape h) (s v : Int) (s0 : 0 ≤ s) (s1 : s < 10) (B : ∀ s, 0 ≤ s → s < 10 → 0 ≤ gv h 6 s ∧ gv h 6 s < 67108864 ∧ 0 ≤ gv h 7 s ∧ gv h 7 s ≤ 3) (g : letters v)
    (K : ∀ r, HoistR v (gv h 6 s) (gv h 7 s) r → q (some (.inl r)) h) :
    Wp (d + 3) 0 0 M_X8_hoistFor 0 [some (.inr (.inr 5)), some (.inl s), some (.inl v), none, none, none, none, none] [] h q := by
  have b := rl_in v
  obtain ⟨b1, b2, b3, b4⟩ := B s s0 s1
  refine p_iload 1 rfl rfl rfl ?_
  refine p_calls (le := [some (.inl v)]) (as := [.inl v]) (rest := []) 4 0 0 0 0 rfl rfl (Nat.le_of_ble_eq_true rfl) rfl (Nat.le_of_ble_eq_true rfl) rfl rfl (Nat.le_of_ble_eq_true rfl) rfl (Nat.le_of_ble_eq_true rfl) rfl (Nat.le_refl _) (Nat.le_refl _) rfl rfl ?_
  refine x_rl S v  ?_
  show Wp (d + 3) 0 0 M_X8_hoistFor 4 [some (.inr (.inr 5)), some (.inl s), some (.inl v), none, none, none, none, none] [.inl (rl v)] h _
  refine p_istore (ls' := [some (.inr (.inr 5)), some (.inl s), some (.inl v), some (.inl (rl v)), none, none, none, none]) 5 rfl rfl (Nat.le_of_ble_eq_true rfl) rfl ?_
  refine p_const 6 rfl rfl ?_
  refine p_istore (ls' := [some (.inr (.inr 5)), some (.inl s), some (.inl v), some (.inl (rl v)), some (.inl 0), none, none, none]) 8 rfl rfl (Nat.le_of_ble_eq_true rfl) rfl ?_
  refine p_const 9 rfl rfl ?_
  refine p_istore (ls' := [some (.inr (.inr 5)), some (.inl s), some (.inl v), some (.inl (rl v)), some (.inl 0), some (.inl 0), none, none]) 11 rfl rfl (Nat.le_of_ble_eq_true rfl) rfl ?_
  refine p_const 12 rfl rfl ?_
  refine p_istore (ls' := [some (.inr (.inr 5)), some (.inl s), some (.inl v), some (.inl (rl v)), some (.inl 0), some (.inl 0), some (.inl 0), none]) 14 rfl rfl (Nat.le_of_ble_eq_true rfl) rfl ?_
  -- leaf 1: loop 14 [some (.inr (.inr 5)), some (.inl s), some (.inl v), some (.inl (rl v)), some (.inl 0), some (.inl 0), some (.inl 0), none] st=[] h=h
  exact x_hoist_loop S s v _ _ s0 s1 rfl rfl b1 b2 b3 b4 g.1 (fun k hk => g.2 k (by omega) hk) K (rl v).toNat 0 0 0 0 none rfl (by omega) rfl rfl (fun j hj => by omega)
abbrev HoistA (s v L R r : Int) : Prop := (¬ (0 ≤ s ∧ s < 10 ∧ letters v) ∧ r = -1) ∨ ((0 ≤ s ∧ s < 10 ∧ letters v) ∧ HoistR v L R r)
theorem x_hoist {d : Nat} {h : PH} {q : PQ} (S : Shape h) (s v : Int) (B : ∀ s, 0 ≤ s → s < 10 → 0 ≤ gv h 6 s ∧ gv h 6 s < 67108864 ∧ 0 ≤ gv h 7 s ∧ gv h 7 s ≤ 3)
    (K : ∀ r, HoistA s v (gv h 6 s) (gv h 7 s) r → q (some (.inl r)) h) :
    Wp (d + 4) 0 0 M_X11_hoist 0 [some (.inr (.inr 2)), some (.inl s), some (.inl v)] [] h q := by
  refine p_iload 1 rfl rfl rfl ?_
  refine p_calls (le := [some (.inl s)]) (as := [.inl s]) (rest := []) 4 0 0 0 0 rfl rfl (Nat.le_of_ble_eq_true rfl) rfl (Nat.le_of_ble_eq_true rfl) rfl rfl (Nat.le_of_ble_eq_true rfl) rfl (Nat.le_of_ble_eq_true rfl) rfl (Nat.le_refl _) (Nat.le_refl _) rfl rfl ?_
  refine p_iload 1 rfl rfl rfl ?_
  refine p_if_lt 4 14 rfl rfl rfl (fun c1 => ?_) (fun c1 => ?_)
  · skip
    refine p_const 15 rfl rfl ?_
    refine p_zret rfl rfl (by decide) ?_
    show Wp (d + 4) 0 0 M_X11_hoist 4 [some (.inr (.inr 2)), some (.inl s), some (.inl v)] [.inl 0] h _
    refine p_if_eq_t 26 rfl rfl (by decide) ?_
    refine p_const 27 rfl rfl ?_
    refine p_iret rfl rfl ?_
    -- leaf 1: answer [.inl (-1)] h=h
    exact K _ (Or.inl ⟨fun z => by have := z.1; omega, rfl⟩)
  · skip
    refine p_iload 5 rfl rfl rfl ?_
    refine p_const 7 rfl rfl ?_
    refine p_ic_ge 10 14 rfl rfl rfl (fun c2 => ?_) (fun c2 => ?_)
    · skip
      refine p_const 15 rfl rfl ?_
      refine p_zret rfl rfl (by decide) ?_
      show Wp (d + 4) 0 0 M_X11_hoist 4 [some (.inr (.inr 2)), some (.inl s), some (.inl v)] [.inl 0] h _
      refine p_if_eq_t 26 rfl rfl (by decide) ?_
      refine p_const 27 rfl rfl ?_
      refine p_iret rfl rfl ?_
      -- leaf 2: answer [.inl (-1)] h=h
      exact K _ (Or.inl ⟨fun z => by have := z.2.1; omega, rfl⟩)
    · skip
      refine p_const 11 rfl rfl ?_
      refine p_goto 15 rfl rfl ?_
      refine p_zret rfl rfl (by decide) ?_
      show Wp (d + 4) 0 0 M_X11_hoist 4 [some (.inr (.inr 2)), some (.inl s), some (.inl v)] [.inl 1] h _
      refine p_if_eq_f 7 rfl rfl (by decide) ?_
      refine p_iload 8 rfl rfl rfl ?_
      refine p_calls (le := [some (.inl v), none, none, none]) (as := [.inl v]) (rest := []) 11 0 0 0 0 rfl rfl (Nat.le_of_ble_eq_true rfl) rfl (Nat.le_of_ble_eq_true rfl) rfl rfl (Nat.le_of_ble_eq_true rfl) rfl (Nat.le_of_ble_eq_true rfl) rfl (Nat.le_refl _) (Nat.le_refl _) rfl rfl ?_
      refine x_isLetters S v  (fun r3 p3 => ?_)
      show Wp (d + 4) 0 0 M_X11_hoist 11 [some (.inr (.inr 2)), some (.inl s), some (.inl v)] [.inl r3] h _
      refine p_if_eq 14 26 rfl rfl rfl (fun c4 => ?_) (fun c4 => ?_)
      · skip
        refine p_const 27 rfl rfl ?_
        refine p_iret rfl rfl ?_
        -- leaf 3: answer [.inl (-1)] h=h
        exact K _ (Or.inl ⟨fun z => p3.elim (fun y => by have := y.2; omega) (fun y => y.1 z.2.2), rfl⟩)
      · skip
        refine p_aload 15 rfl rfl rfl ?_
        refine p_getfr (j := 1) (z := 5) 18 rfl rfl rfl (tg_2 S) rfl (fi_2_1 S) ?_
        refine p_iload 19 rfl rfl rfl ?_
        refine p_iload 20 rfl rfl rfl ?_
        refine p_callv (le := [some (.inr (.inr 5)), some (.inl s), some (.inl v), none, none, none, none, none]) (as := [.inr (.inr 5), .inl s, .inl v]) (rest := []) 23 0 0 0 0 rfl rfl (Nat.le_of_ble_eq_true rfl) rfl (Nat.le_of_ble_eq_true rfl) rfl rfl (Nat.le_of_ble_eq_true rfl) rfl (Nat.le_of_ble_eq_true rfl) rfl (Nat.le_refl _) (Nat.le_refl _) rfl rfl (tg_5 S) ?_
        refine x_hoistFor S s v (by omega) (by omega) (B) (p3.elim (fun z => z.1) (fun z => absurd z.2 c4)) (fun r5 p5 => ?_)
        show Wp (d + 4) 0 0 M_X11_hoist 23 [some (.inr (.inr 2)), some (.inl s), some (.inl v)] [.inl r5] h _
        refine p_goto 27 rfl rfl ?_
        refine p_iret rfl rfl ?_
        -- leaf 4: answer [.inl r5] h=h
        exact K _ (Or.inr ⟨⟨by omega, by omega, p3.elim (fun z => z.1) (fun z => absurd z.2 c4)⟩, p5⟩)
theorem hoist_same {s v L R r r' : Int} (a : HoistA s v L R r) (b : HoistA s v L R r') : r = r' := by
  rcases a with ⟨a, a1⟩ | ⟨a, ⟨a1, a2⟩ | ⟨⟨j, a1, a2⟩, a3⟩⟩ <;> rcases b with ⟨b, b1⟩ | ⟨b, ⟨b1, b2⟩ | ⟨⟨k, b1, b2⟩, b3⟩⟩
  · omega
  · exact absurd b a
  · exact absurd b a
  · exact absurd a b
  · omega
  · exact absurd b2 (a1 k b1)
  · exact absurd a b
  · exact absurd a2 (b1 j a1)
  · omega

