/-! BITS: sets of signs as numbers -/
theorem or32_nat {x y : Int} (hx : 0 ≤ x ∧ x < 2147483648) (hy : 0 ≤ y ∧ y < 2147483648) : or32 x y = ((x.toNat ||| y.toNat : Nat) : Int) := by
  unfold or32
  have e : (BitVec.ofInt 32 x ||| BitVec.ofInt 32 y).toNat = x.toNat ||| y.toNat := by
    rw [BitVec.toNat_or, BitVec.toNat_ofInt, BitVec.toNat_ofInt, Int.emod_eq_of_lt hx.1 (by have := hx.2; show x < 4294967296; omega), Int.emod_eq_of_lt hy.1 (by have := hy.2; show y < 4294967296; omega)]
  have hl : x.toNat ||| y.toNat < 2 ^ 31 := Nat.or_lt_two_pow (by have := hx.2; show x.toNat < 2147483648; omega) (by have := hy.2; show y.toNat < 2147483648; omega)
  rw [BitVec.toInt_eq_toNat_of_lt (by rw [e]; omega), e]
theorem or32_add {x y : Int} (x0 : 0 ≤ x) (x1 : x < 67108864) (y0 : 0 ≤ y) (y1 : y < 32) : or32 (x * 32) y = x * 32 + y := by
  rw [or32_nat ⟨by omega, by omega⟩ ⟨y0, by omega⟩]
  have h := Nat.two_pow_add_eq_or_of_lt (i := 5) (b := y.toNat) (by show y.toNat < 32; omega) x.toNat
  rw [show (x * 32).toNat = 2 ^ 5 * x.toNat by show (x * 32).toNat = 32 * x.toNat; omega, ← h]
  show ((32 * x.toNat + y.toNat : Nat) : Int) = _
  omega
def bit (u t : Int) : Int := u / 2 ^ t.toNat % 2
theorem bit_nat {u t : Int} (u0 : 0 ≤ u) : bit u t = ((u.toNat / 2 ^ t.toNat % 2 : Nat) : Int) := by
  unfold bit
  rw [Int.natCast_emod, Int.natCast_ediv, Int.natCast_pow, Int.toNat_of_nonneg u0]
  rfl
theorem bit_in (u t : Int) : bit u t = 0 ∨ bit u t = 1 := by unfold bit; omega
theorem bit_zero (t : Int) : bit 0 t = 0 := by unfold bit; rw [Int.zero_ediv]; rfl
theorem bit_tb {u t : Int} (u0 : 0 ≤ u) : bit u t = if u.toNat.testBit t.toNat = true then 1 else 0 := by
  rw [bit_nat u0, Nat.testBit_eq_decide_div_mod_eq]
  by_cases c : u.toNat / 2 ^ t.toNat % 2 = 1
  · rw [if_pos (decide_eq_true c), c]; rfl
  · rw [if_neg (by rw [decide_eq_false c]; decide)]; omega
theorem p2_in {s : Int} (s1 : s ≤ 29) : (2 : Nat) ^ s.toNat ≤ 536870912 ∧ (2 : Nat) ^ s.toNat < 2 ^ 30 := by
  have : (2 : Nat) ^ s.toNat ≤ 2 ^ 29 := Nat.pow_le_pow_right (by decide) (by omega)
  exact ⟨this, by omega⟩
theorem p2_int {s : Int} (s1 : s ≤ 29) : 0 ≤ ((2 ^ s.toNat : Nat) : Int) ∧ ((2 ^ s.toNat : Nat) : Int) < 2147483648 := by
  have p := (p2_in s1).1
  generalize (2 : Nat) ^ s.toNat = n at p ⊢
  omega
theorem w32_p2 {s : Int} (s1 : s ≤ 29) : w32 (1 * 2 ^ s.toNat) = ((2 ^ s.toNat : Nat) : Int) := by
  rw [Int.one_mul, show (2 : Int) ^ s.toNat = ((2 ^ s.toNat : Nat) : Int) by rw [Int.natCast_pow]; rfl]
  have p := p2_int s1
  exact w32_id ⟨Int.le_trans (by decide) p.1, p.2⟩
theorem or_in {u s : Int} (u0 : 0 ≤ u) (u1 : u < 1073741824) (s1 : s ≤ 29) : 0 ≤ or32 u (w32 (1 * 2 ^ s.toNat)) ∧ or32 u (w32 (1 * 2 ^ s.toNat)) < 1073741824 := by
  have p := p2_in s1
  rw [w32_p2 s1, or32_nat ⟨u0, by omega⟩ (p2_int s1), Int.toNat_natCast]
  have := Nat.or_lt_two_pow (x := u.toNat) (y := 2 ^ s.toNat) (n := 30) (by show u.toNat < 1073741824; omega) p.2
  have e : (2 : Nat) ^ 30 = 1073741824 := by decide
  omega
theorem or_bit {u s t : Int} (u0 : 0 ≤ u) (u1 : u < 1073741824) (s0 : 0 ≤ s) (s1 : s ≤ 29) (t0 : 0 ≤ t) : bit (or32 u (w32 (1 * 2 ^ s.toNat))) t = if t = s then 1 else bit u t := by
  have p := p2_in s1
  rw [bit_tb (or_in u0 u1 s1).1, bit_tb u0, w32_p2 s1, or32_nat ⟨u0, by omega⟩ (p2_int s1), Int.toNat_natCast, Int.toNat_natCast, Nat.testBit_or, Nat.testBit_two_pow]
  by_cases c : t = s
  · rw [if_pos c, c, decide_eq_true rfl, Bool.or_true, if_pos rfl]
  · rw [if_neg c, decide_eq_false (by omega), Bool.or_false]

