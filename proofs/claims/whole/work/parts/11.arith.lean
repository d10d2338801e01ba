/-! THE MACHINE'S NUMBERS AS WHOLE NUMBERS: what Int32 and Int64 do, said of their values -/
def i32 (x : Int) : Prop := -2147483648 ≤ x ∧ x < 2147483648
def i64 (x : Int) : Prop := -9223372036854775808 ≤ x ∧ x < 9223372036854775808
theorem o32 {x : Int} (h : i32 x) : (Int32.ofInt x).toInt = x := Int32.toInt_ofInt_of_le h.1 h.2
theorem o64 {x : Int} (h : i64 x) : (Int64.ofInt x).toInt = x := Int64.toInt_ofInt_of_le h.1 h.2
theorem i32_of (x : Int32) : i32 x.toInt := ⟨Int32.le_toInt x, Int32.toInt_lt x⟩
theorem i64_of (x : Int64) : i64 x.toInt := ⟨Int64.le_toInt x, Int64.toInt_lt x⟩
theorem w32_in (x : Int) : i32 (w32 x) := by
  have h1 := Int.le_bmod (x := x) (m := 4294967296) (by decide)
  have h2 := Int.bmod_lt (x := x) (m := 4294967296) (by decide)
  unfold i32 w32
  omega
theorem w64_in (x : Int) : i64 (w64 x) := by
  have h1 := Int.le_bmod (x := x) (m := 18446744073709551616) (by decide)
  have h2 := Int.bmod_lt (x := x) (m := 18446744073709551616) (by decide)
  unfold i64 w64
  omega
theorem w8_in (x : Int) : -128 ≤ w8 x ∧ w8 x < 128 := by
  have h1 := Int.le_bmod (x := x) (m := 256) (by decide)
  have h2 := Int.bmod_lt (x := x) (m := 256) (by decide)
  unfold w8
  omega
theorem w32_id {x : Int} (h : i32 x) : w32 x = x := by
  unfold w32 i32 at *
  rw [Int.bmod_eq_of_le (by omega) (by omega)]
theorem w64_id {x : Int} (h : i64 x) : w64 x = x := by
  unfold w64 i64 at *
  rw [Int.bmod_eq_of_le (by omega) (by omega)]
theorem ofI_w (x : Int) : Int32.ofInt (w32 x) = Int32.ofInt x := Int32.toInt_inj.mp (by
  rw [o32 (w32_in x), Int32.toInt_ofInt]; rfl)
theorem ofJ_w (x : Int) : Int64.ofInt (w64 x) = Int64.ofInt x := Int64.toInt_inj.mp (by
  rw [o64 (w64_in x), Int64.toInt_ofInt]; rfl)
theorem a_add (x y : Int) : Int32.ofInt x + Int32.ofInt y = Int32.ofInt (w32 (x + y)) := by rw [ofI_w, Int32.ofInt_add]
theorem a_sub (x y : Int) : Int32.ofInt x - Int32.ofInt y = Int32.ofInt (w32 (x - y)) := by rw [ofI_w, Int32.ofInt_sub]
theorem a_mul (x y : Int) : Int32.ofInt x * Int32.ofInt y = Int32.ofInt (w32 (x * y)) := by rw [ofI_w, Int32.ofInt_mul]
theorem a_ladd (x y : Int) : Int64.ofInt x + Int64.ofInt y = Int64.ofInt (w64 (x + y)) := by rw [ofJ_w, Int64.ofInt_add]
theorem a_lsub (x y : Int) : Int64.ofInt x - Int64.ofInt y = Int64.ofInt (w64 (x - y)) := by rw [ofJ_w, Int64.ofInt_sub]
theorem a_lmul (x y : Int) : Int64.ofInt x * Int64.ofInt y = Int64.ofInt (w64 (x * y)) := by rw [ofJ_w, Int64.ofInt_mul]
theorem a_div {x y : Int} (hx : i32 x) (hy : i32 y) : Int32.ofInt x / Int32.ofInt y = Int32.ofInt (w32 (x.tdiv y)) := Int32.toInt_inj.mp (by
  rw [Int32.toInt_div, o32 hx, o32 hy, o32 (w32_in _)]; rfl)
theorem a_ldiv {x y : Int} (hx : i64 x) (hy : i64 y) : Int64.ofInt x / Int64.ofInt y = Int64.ofInt (w64 (x.tdiv y)) := Int64.toInt_inj.mp (by
  rw [Int64.toInt_div, o64 hx, o64 hy, o64 (w64_in _)]; rfl)
theorem tmod_in {x y m : Int} (h : -m ≤ x ∧ x < m) (hm : 0 ≤ m) : -m ≤ x.tmod y ∧ x.tmod y < m := by
  rcases Int.le_total 0 x with h0 | h0
  · have h1 := Int.tmod_nonneg y h0
    have h2 : x.tmod y ≤ x := by
      have := Int.natAbs_tmod x y
      have h3 : (x.tmod y).natAbs ≤ x.natAbs := by rw [this]; exact Nat.mod_le _ _
      omega
    omega
  · have e : x.tmod y = -((-x).tmod y) := by rw [Int.neg_tmod, Int.neg_neg]
    have h1 := Int.tmod_nonneg y (show 0 ≤ -x by omega)
    have h2 : (-x).tmod y ≤ -x := by
      have := Int.natAbs_tmod (-x) y
      have h3 : ((-x).tmod y).natAbs ≤ (-x).natAbs := by rw [this]; exact Nat.mod_le _ _
      omega
    omega
theorem a_rem {x y : Int} (hx : i32 x) (hy : i32 y) : Int32.ofInt x - Int32.ofInt x / Int32.ofInt y * Int32.ofInt y = Int32.ofInt (x.tmod y) := Int32.toInt_inj.mp (by
  rw [rem_toInt, o32 hx, o32 hy, o32 (tmod_in hx (by decide))])
theorem a_lrem {x y : Int} (hx : i64 x) (hy : i64 y) : Int64.ofInt x - Int64.ofInt x / Int64.ofInt y * Int64.ofInt y = Int64.ofInt (x.tmod y) := Int64.toInt_inj.mp (by
  rw [o64 (tmod_in hx (by decide)), Int64.toInt_sub, Int64.toInt_mul, Int64.toInt_div, o64 hx, o64 hy]
  rw [Int.sub_bmod_bmod, ← Int.sub_bmod_bmod, Int.mul_comm ((x.tdiv y).bmod (2 ^ 64)) y, Int.mul_bmod_bmod, Int.sub_bmod_bmod, Int.mul_comm y]
  have e : x - x.tdiv y * y = x.tmod y := by
    have := Int.tdiv_mul_add_tmod x y
    omega
  rw [e]
  have := tmod_in (y := y) hx (by decide)
  exact Int.bmod_eq_of_le (by omega) (by omega))
theorem a_and (x y : Int) : Int32.ofInt x &&& Int32.ofInt y = Int32.ofInt (an32 x y) := Int32.toBitVec.inj (by unfold an32; rw [Int32.toBitVec_and, Int32.toBitVec_ofInt, Int32.toBitVec_ofInt, Int32.toBitVec_ofInt, BitVec.ofInt_toInt])
theorem a_or (x y : Int) : Int32.ofInt x ||| Int32.ofInt y = Int32.ofInt (or32 x y) := Int32.toBitVec.inj (by unfold or32; rw [Int32.toBitVec_or, Int32.toBitVec_ofInt, Int32.toBitVec_ofInt, Int32.toBitVec_ofInt, BitVec.ofInt_toInt])
theorem a_land (x y : Int) : Int64.ofInt x &&& Int64.ofInt y = Int64.ofInt (an64 x y) := Int64.toBitVec.inj (by unfold an64; rw [Int64.toBitVec_and, Int64.toBitVec_ofInt, Int64.toBitVec_ofInt, Int64.toBitVec_ofInt, BitVec.ofInt_toInt])
theorem a_lor (x y : Int) : Int64.ofInt x ||| Int64.ofInt y = Int64.ofInt (or64 x y) := Int64.toBitVec.inj (by unfold or64; rw [Int64.toBitVec_or, Int64.toBitVec_ofInt, Int64.toBitVec_ofInt, Int64.toBitVec_ofInt, BitVec.ofInt_toInt])
theorem a_lxor (x y : Int) : Int64.ofInt x ^^^ Int64.ofInt y = Int64.ofInt (xo64 x y) := Int64.toBitVec.inj (by unfold xo64; rw [Int64.toBitVec_xor, Int64.toBitVec_ofInt, Int64.toBitVec_ofInt, Int64.toBitVec_ofInt, BitVec.ofInt_toInt])
theorem bv32_in (b : BitVec 32) : i32 b.toInt := by
  have h1 := BitVec.le_toInt b
  have h2 := BitVec.toInt_lt (x := b)
  unfold i32
  omega
theorem bv64_in (b : BitVec 64) : i64 b.toInt := by
  have h1 := BitVec.le_toInt b
  have h2 := BitVec.toInt_lt (x := b)
  unfold i64
  omega
theorem sh_s : ∀ n : Nat, n < 32 → (((Int32.ofInt (n : Int)) &&& 31).toBitVec.smod 32).toNat = n := by decide +kernel
theorem sh_u : ∀ n : Nat, n < 32 → (((Int32.ofInt (n : Int)).toUInt32 &&& Int32.toUInt32 31).toBitVec % 32).toNat = n := by decide +kernel
theorem sh_l : ∀ n : Nat, n < 64 → (((Int32.ofInt (n : Int)).toInt64 &&& 63).toBitVec.smod 64).toNat = n := by decide +kernel
theorem sh_v : ∀ n : Nat, n < 64 → (((Int32.ofInt (n : Int)).toInt64.toUInt64 &&& Int64.toUInt64 63).toBitVec % 64).toNat = n := by decide +kernel
theorem bv_w32 (b : BitVec 32) (x : Int) (h : (b.toNat : Int) % 4294967296 = x % 4294967296) : b.toInt = w32 x := by
  rw [BitVec.toInt_eq_toNat_bmod]
  unfold w32
  have h' : (b.toNat : Int) % ((4294967296 : Nat) : Int) = x % ((4294967296 : Nat) : Int) := h
  show Int.bmod (b.toNat : Int) 4294967296 = _
  unfold Int.bmod
  rw [h']
theorem bv_w64 (b : BitVec 64) (x : Int) (h : (b.toNat : Int) % 18446744073709551616 = x % 18446744073709551616) : b.toInt = w64 x := by
  rw [BitVec.toInt_eq_toNat_bmod]
  unfold w64
  have h' : (b.toNat : Int) % ((18446744073709551616 : Nat) : Int) = x % ((18446744073709551616 : Nat) : Int) := h
  show Int.bmod (b.toNat : Int) 18446744073709551616 = _
  unfold Int.bmod
  rw [h']
theorem tn32 (x : Int) : ((Int32.ofInt x).toBitVec.toNat : Int) = x % 4294967296 := by
  rw [Int32.toBitVec_ofInt, BitVec.toNat_ofInt]
  have := Int.emod_nonneg x (show (4294967296 : Int) ≠ 0 by decide)
  show (((x % 4294967296).toNat : Nat) : Int) = _
  omega
theorem tn64 (x : Int) : ((Int64.ofInt x).toBitVec.toNat : Int) = x % 18446744073709551616 := by
  rw [Int64.toBitVec_ofInt, BitVec.toNat_ofInt]
  have := Int.emod_nonneg x (show (18446744073709551616 : Int) ≠ 0 by decide)
  show (((x % 18446744073709551616).toNat : Nat) : Int) = _
  omega
theorem a_shl {x y : Int} (h0 : 0 ≤ y) (h1 : y < 32) : Int32.ofInt x <<< (Int32.ofInt y &&& 31) = Int32.ofInt (w32 (x * 2 ^ y.toNat)) := by
  obtain ⟨k, rfl⟩ := Int.eq_ofNat_of_zero_le h0
  refine Int32.toInt_inj.mp ?_
  rw [o32 (w32_in _)]
  refine bv_w32 _ _ ?_
  rw [pk_shl _ _ k (sh_s k (by omega))]
  rw [Int.toNat_natCast, show (2 : Nat) ^ 32 = 4294967296 from rfl, Int.natCast_emod, Int.natCast_mul, tn32, Int.natCast_pow]
  show x % 4294967296 * 2 ^ k % 4294967296 % 4294967296 = _
  rw [Int.emod_emod_of_dvd _ (Int.dvd_refl _), Int.mul_emod, Int.emod_emod_of_dvd _ (Int.dvd_refl _), ← Int.mul_emod]
theorem a_shr {x y : Int} (hx : i32 x) (h0 : 0 ≤ y) (h1 : y < 32) : Int32.ofInt x >>> (Int32.ofInt y &&& 31) = Int32.ofInt (x / 2 ^ y.toNat) ∧ i32 (x / 2 ^ y.toNat) := by
  obtain ⟨k, rfl⟩ := Int.eq_ofNat_of_zero_le h0
  have e : (Int32.ofInt x >>> (Int32.ofInt (k : Int) &&& 31)).toInt = x / 2 ^ (k : Int).toNat := by
    rw [pk_shr _ _ k (sh_s k (by omega)), o32 hx, Int.shiftRight_eq_div_pow, Int.toNat_natCast]
    simp
  have hi := i32_of (Int32.ofInt x >>> (Int32.ofInt (k : Int) &&& 31))
  rw [e] at hi
  exact ⟨Int32.toInt_inj.mp (by rw [e, o32 hi]), hi⟩
theorem a_ushr {x y : Int} (h0 : 0 ≤ y) (h1 : y < 32) : ((Int32.ofInt x).toUInt32 >>> ((Int32.ofInt y).toUInt32 &&& Int32.toUInt32 31)).toInt32 = Int32.ofInt (us32 x y) := by
  obtain ⟨k, rfl⟩ := Int.eq_ofNat_of_zero_le h0
  refine Int32.toInt_inj.mp ?_
  unfold us32
  rw [o32 (w32_in _)]
  refine bv_w32 _ _ ?_
  rw [pk_ushr _ _ k (sh_u k (by omega)), Int.natCast_ediv, tn32, Int.toNat_natCast, Int.natCast_pow]
  rfl
theorem a_lshl {x y : Int} (h0 : 0 ≤ y) (h1 : y < 64) : Int64.ofInt x <<< ((Int32.ofInt y).toInt64 &&& 63) = Int64.ofInt (w64 (x * 2 ^ y.toNat)) := by
  obtain ⟨k, rfl⟩ := Int.eq_ofNat_of_zero_le h0
  refine Int64.toInt_inj.mp ?_
  rw [o64 (w64_in _)]
  refine bv_w64 _ _ ?_
  rw [Int64.toBitVec_shiftLeft, BitVec.shiftLeft_eq', BitVec.toNat_shiftLeft, sh_l k (by omega), Nat.shiftLeft_eq]
  rw [Int.toNat_natCast, show (2 : Nat) ^ 64 = 18446744073709551616 from rfl, Int.natCast_emod, Int.natCast_mul, tn64, Int.natCast_pow]
  show x % 18446744073709551616 * 2 ^ k % 18446744073709551616 % 18446744073709551616 = _
  rw [Int.emod_emod_of_dvd _ (Int.dvd_refl _), Int.mul_emod, Int.emod_emod_of_dvd _ (Int.dvd_refl _), ← Int.mul_emod]
theorem a_lshr {x y : Int} (hx : i64 x) (h0 : 0 ≤ y) (h1 : y < 64) : Int64.ofInt x >>> ((Int32.ofInt y).toInt64 &&& 63) = Int64.ofInt (x / 2 ^ y.toNat) ∧ i64 (x / 2 ^ y.toNat) := by
  obtain ⟨k, rfl⟩ := Int.eq_ofNat_of_zero_le h0
  have e : (Int64.ofInt x >>> ((Int32.ofInt (k : Int)).toInt64 &&& 63)).toInt = x / 2 ^ (k : Int).toNat := by
    show ((Int64.ofInt x >>> ((Int32.ofInt (k : Int)).toInt64 &&& 63)).toBitVec).toInt = _
    rw [Int64.toBitVec_shiftRight, BitVec.sshiftRight_eq', BitVec.toInt_sshiftRight, sh_l k (by omega), Int.toNat_natCast]
    show (Int64.ofInt x).toInt >>> k = _
    rw [o64 hx, Int.shiftRight_eq_div_pow]
    simp
  have hi := i64_of (Int64.ofInt x >>> ((Int32.ofInt (k : Int)).toInt64 &&& 63))
  rw [e] at hi
  exact ⟨Int64.toInt_inj.mp (by rw [e, o64 hi]), hi⟩
theorem a_lushr {x y : Int} (h0 : 0 ≤ y) (h1 : y < 64) : ((Int64.ofInt x).toUInt64 >>> ((Int32.ofInt y).toInt64.toUInt64 &&& Int64.toUInt64 63)).toInt64 = Int64.ofInt (us64 x y) := by
  obtain ⟨k, rfl⟩ := Int.eq_ofNat_of_zero_le h0
  refine Int64.toInt_inj.mp ?_
  unfold us64
  rw [o64 (w64_in _)]
  refine bv_w64 _ _ ?_
  show ((((Int64.ofInt x).toUInt64 >>> ((Int32.ofInt (k : Int)).toInt64.toUInt64 &&& Int64.toUInt64 63)).toBitVec.toNat : Nat) : Int) % _ = _
  rw [UInt64.toBitVec_shiftRight, BitVec.ushiftRight_eq', BitVec.toNat_ushiftRight, sh_v k (by omega), Nat.shiftRight_eq_div_pow]
  show (((Int64.ofInt x).toBitVec.toNat / 2 ^ k : Nat) : Int) % _ = _
  rw [Int.natCast_ediv, tn64, Int.toNat_natCast, Int.natCast_pow]
  rfl
theorem a_i2l {x : Int} (hx : i32 x) : (Int32.ofInt x).toInt64 = Int64.ofInt x := Int64.toInt_inj.mp (by
  rw [Int32.toInt_toInt64, o32 hx, o64]; unfold i32 i64 at *; omega)
theorem a_l2i {x : Int} (hx : i64 x) : (Int64.ofInt x).toInt32 = Int32.ofInt (w32 x) := Int32.toInt_inj.mp (by
  rw [Int64.toInt_toInt32, o64 hx, o32 (w32_in _)]; rfl)
theorem a_i2b {x : Int} (hx : i32 x) : (Int32.ofInt x).toInt8.toInt32 = Int32.ofInt (w8 x) := Int32.toInt_inj.mp (by
  rw [Int8.toInt_toInt32, Int32.toInt_toInt8, o32 hx, o32]; rfl
  have := w8_in x
  unfold i32
  omega)
theorem lt32 {x y : Int} (hx : i32 x) (hy : i32 y) : Int32.ofInt x < Int32.ofInt y ↔ x < y := by rw [Int32.lt_iff_toInt_lt, o32 hx, o32 hy]
theorem le32 {x y : Int} (hx : i32 x) (hy : i32 y) : Int32.ofInt x ≤ Int32.ofInt y ↔ x ≤ y := by rw [Int32.le_iff_toInt_le, o32 hx, o32 hy]
theorem eq32 {x y : Int} (hx : i32 x) (hy : i32 y) : Int32.ofInt x = Int32.ofInt y ↔ x = y := by rw [← Int32.toInt_inj, o32 hx, o32 hy]
theorem lt64 {x y : Int} (hx : i64 x) (hy : i64 y) : Int64.ofInt x < Int64.ofInt y ↔ x < y := by rw [Int64.lt_iff_toInt_lt, o64 hx, o64 hy]
theorem eq64 {x y : Int} (hx : i64 x) (hy : i64 y) : Int64.ofInt x = Int64.ofInt y ↔ x = y := by rw [← Int64.toInt_inj, o64 hx, o64 hy]
theorem cl32 {x : Int} (hx : i32 x) : (Int32.ofInt x).toNatClampNeg = x.toNat := by
  show (Int32.ofInt x).toInt.toNat = _
  rw [o32 hx]
