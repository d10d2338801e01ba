/-! BITCOUNT: how many places a set has -/
theorem an64_nat {x y : Int} (hx : 0 ≤ x ∧ x < 9223372036854775808) (hy : 0 ≤ y ∧ y < 18446744073709551616) : an64 x y = ((x.toNat &&& y.toNat : Nat) : Int) := by
  unfold an64
  have e : (BitVec.ofInt 64 x &&& BitVec.ofInt 64 y).toNat = x.toNat &&& y.toNat := by
    rw [BitVec.toNat_and, BitVec.toNat_ofInt, BitVec.toNat_ofInt, Int.emod_eq_of_lt hx.1 (by have := hx.2; show x < 18446744073709551616; omega), Int.emod_eq_of_lt hy.1 (by have := hy.2; show y < 18446744073709551616; omega)]
  have hle : x.toNat &&& y.toNat ≤ x.toNat := Nat.and_le_left
  rw [BitVec.toInt_eq_toNat_of_lt (by rw [e]; omega), e]
theorem us64_id {x : Int} (hx : 0 ≤ x ∧ x < 9223372036854775808) (k : Nat) : us64 x (k : Int) = x / 2 ^ k := by
  unfold us64
  rw [Int.emod_eq_of_lt hx.1 (by omega), Int.toNat_natCast]
  have h1 := Int.ediv_nonneg hx.1 (Int.pow_nonneg (by decide) : (0 : Int) ≤ 2 ^ k)
  have h2 : x / 2 ^ k ≤ x := Int.ediv_le_self _ hx.1
  exact w64_id ⟨by omega, by omega⟩
theorem and_byte {a m r R : Nat} (ha : a < 256) (hm : m < 256) : (a + 256 * r) &&& (m + 256 * R) = (a &&& m) + 256 * (r &&& R) := by
  have h1 := Nat.and_mod_two_pow (a := a + 256 * r) (b := m + 256 * R) (n := 8)
  have h2 := Nat.and_div_two_pow (a := a + 256 * r) (b := m + 256 * R) (n := 8)
  rw [show (2 : Nat) ^ 8 = 256 from rfl] at h1 h2
  rw [show (a + 256 * r) % 256 = a by omega, show (m + 256 * R) % 256 = m by omega] at h1
  rw [show (a + 256 * r) / 256 = r by omega, show (m + 256 * R) / 256 = R by omega] at h2
  omega
abbrev c5 (a b c d e : Nat) : Nat := a + 256 * (b + 256 * (c + 256 * (d + 256 * e)))
theorem and_c5 {a b c d e m : Nat} (ha : a < 256) (hb : b < 256) (hc : c < 256) (hd : d < 256) (he : e < 256) (hm : m < 256) : c5 a b c d e &&& c5 m m m m (m + 256 * (m + 256 * (m + 256 * m))) = c5 (a &&& m) (b &&& m) (c &&& m) (d &&& m) (e &&& m) := by
  have z := and_byte (r := 0) (R := m + 256 * (m + 256 * m)) he hm
  rw [Nat.mul_zero, Nat.add_zero, Nat.zero_and, Nat.mul_zero, Nat.add_zero] at z
  unfold c5
  rw [and_byte ha hm, and_byte hb hm, and_byte hc hm, and_byte hd hm, z]
def f1 (b : Nat) : Nat := b - ((b / 2) &&& 85)
def f2 (b : Nat) : Nat := (b &&& 51) + ((b / 4) &&& 51)
def f3 (b : Nat) : Nat := (b + b / 16) &&& 15
def pc8 (b : Nat) : Nat := b % 2 + b / 2 % 2 + b / 4 % 2 + b / 8 % 2 + b / 16 % 2 + b / 32 % 2 + b / 64 % 2 + b / 128 % 2
theorem f1_in : ∀ b : Fin 256, f1 b < 256 ∧ f2 (f1 b) < 69 ∧ f2 (f1 b) % 16 ≤ 4 ∧ f3 (f2 (f1 b)) = pc8 b ∧ pc8 b ≤ 8 ∧ ((b.val / 2) &&& 85) ≤ b.val := by decide +kernel
theorem sh1 : ∀ (b : Fin 256) (e : Fin 2), ((b.val / 2 + 128 * e.val) &&& 85) = ((b.val / 2) &&& 85) := by decide +kernel
theorem sh2 : ∀ (b : Fin 256) (e : Fin 4), ((b.val / 4 + 64 * e.val) &&& 51) = ((b.val / 4) &&& 51) := by decide +kernel
theorem sh3 : ∀ (b : Fin 69) (e : Fin 5), b.val % 16 ≤ 4 → ((b.val + b.val / 16 + 16 * e.val) &&& 15) = ((b.val + b.val / 16) &&& 15) := by decide +kernel
theorem c5_lt {a b c d e : Nat} (ha : a < 256) (hb : b < 256) (hc : c < 256) (hd : d < 256) (he : e < 256) : c5 a b c d e < 1099511627776 := by unfold c5; omega
theorem bt1 {a b c d e : Nat} (ha : a < 256) (hb : b < 256) (hc : c < 256) (hd : d < 256) (he : e < 256) : an64 (us64 ((c5 a b c d e : Nat) : Int) 1) 6148914691236517205 = ((c5 (a / 2 &&& 85) (b / 2 &&& 85) (c / 2 &&& 85) (d / 2 &&& 85) (e / 2 &&& 85) : Nat) : Int) := by
  have l := c5_lt ha hb hc hd he
  have u : us64 ((c5 a b c d e : Nat) : Int) 1 = ((c5 a b c d e / 2 : Nat) : Int) := by
    have y := us64_id (x := ((c5 a b c d e : Nat) : Int)) ⟨by omega, by omega⟩ 1
    have y : us64 ((c5 a b c d e : Nat) : Int) 1 = ((c5 a b c d e : Nat) : Int) / 2 := y
    rw [y]; omega
  rw [u, an64_nat ⟨by omega, by omega⟩ (by decide), Int.toNat_natCast]
  have e1 : c5 a b c d e / 2 = c5 (a / 2 + 128 * (b % 2)) (b / 2 + 128 * (c % 2)) (c / 2 + 128 * (d % 2)) (d / 2 + 128 * (e % 2)) (e / 2) := by unfold c5; omega
  have z := and_c5 (m := 85) (a := a / 2 + 128 * (b % 2)) (b := b / 2 + 128 * (c % 2)) (c := c / 2 + 128 * (d % 2)) (d := d / 2 + 128 * (e % 2)) (e := e / 2) (by omega) (by omega) (by omega) (by omega) (by omega) (by decide)
  rw [sh1 ⟨a, ha⟩ ⟨b % 2, by omega⟩, sh1 ⟨b, hb⟩ ⟨c % 2, by omega⟩, sh1 ⟨c, hc⟩ ⟨d % 2, by omega⟩, sh1 ⟨d, hd⟩ ⟨e % 2, by omega⟩] at z
  rw [e1]
  exact congrArg _ z
theorem bt2 {a b c d e : Nat} (ha : a < 256) (hb : b < 256) (hc : c < 256) (hd : d < 256) (he : e < 256) : an64 ((c5 a b c d e : Nat) : Int) 3689348814741910323 = ((c5 (a &&& 51) (b &&& 51) (c &&& 51) (d &&& 51) (e &&& 51) : Nat) : Int) := by
  have l := c5_lt ha hb hc hd he
  rw [an64_nat ⟨by omega, by omega⟩ (by decide), Int.toNat_natCast]
  exact congrArg _ (and_c5 (m := 51) ha hb hc hd he (by decide))
theorem bt2' {a b c d e : Nat} (ha : a < 256) (hb : b < 256) (hc : c < 256) (hd : d < 256) (he : e < 256) : an64 (us64 ((c5 a b c d e : Nat) : Int) 2) 3689348814741910323 = ((c5 (a / 4 &&& 51) (b / 4 &&& 51) (c / 4 &&& 51) (d / 4 &&& 51) (e / 4 &&& 51) : Nat) : Int) := by
  have l := c5_lt ha hb hc hd he
  have u : us64 ((c5 a b c d e : Nat) : Int) 2 = ((c5 a b c d e / 4 : Nat) : Int) := by
    have y := us64_id (x := ((c5 a b c d e : Nat) : Int)) ⟨by omega, by omega⟩ 2
    have y : us64 ((c5 a b c d e : Nat) : Int) 2 = ((c5 a b c d e : Nat) : Int) / 4 := y
    rw [y]; omega
  rw [u, an64_nat ⟨by omega, by omega⟩ (by decide), Int.toNat_natCast]
  have e1 : c5 a b c d e / 4 = c5 (a / 4 + 64 * (b % 4)) (b / 4 + 64 * (c % 4)) (c / 4 + 64 * (d % 4)) (d / 4 + 64 * (e % 4)) (e / 4) := by unfold c5; omega
  have z := and_c5 (m := 51) (a := a / 4 + 64 * (b % 4)) (b := b / 4 + 64 * (c % 4)) (c := c / 4 + 64 * (d % 4)) (d := d / 4 + 64 * (e % 4)) (e := e / 4) (by omega) (by omega) (by omega) (by omega) (by omega) (by decide)
  rw [sh2 ⟨a, ha⟩ ⟨b % 4, by omega⟩, sh2 ⟨b, hb⟩ ⟨c % 4, by omega⟩, sh2 ⟨c, hc⟩ ⟨d % 4, by omega⟩, sh2 ⟨d, hd⟩ ⟨e % 4, by omega⟩] at z
  rw [e1]
  exact congrArg _ z
theorem bt3 {a b c d e : Nat} (ha : a < 69 ∧ a % 16 ≤ 4) (hb : b < 69 ∧ b % 16 ≤ 4) (hc : c < 69 ∧ c % 16 ≤ 4) (hd : d < 69 ∧ d % 16 ≤ 4) (he : e < 69 ∧ e % 16 ≤ 4) : us64 ((c5 a b c d e : Nat) : Int) 4 = ((c5 a b c d e / 16 : Nat) : Int) ∧ an64 (((c5 a b c d e : Nat) : Int) + us64 ((c5 a b c d e : Nat) : Int) 4) 1085102592571150095 = ((c5 (f3 a) (f3 b) (f3 c) (f3 d) (f3 e) : Nat) : Int) := by
  have l := c5_lt (a := a) (b := b) (c := c) (d := d) (e := e) (by omega) (by omega) (by omega) (by omega) (by omega)
  have u : us64 ((c5 a b c d e : Nat) : Int) 4 = ((c5 a b c d e / 16 : Nat) : Int) := by
    have y := us64_id (x := ((c5 a b c d e : Nat) : Int)) ⟨by omega, by omega⟩ 4
    have y : us64 ((c5 a b c d e : Nat) : Int) 4 = ((c5 a b c d e : Nat) : Int) / 16 := y
    rw [y]; omega
  refine ⟨u, ?_⟩
  rw [u, show ((c5 a b c d e : Nat) : Int) + ((c5 a b c d e / 16 : Nat) : Int) = ((c5 a b c d e + c5 a b c d e / 16 : Nat) : Int) by omega, an64_nat ⟨by omega, by omega⟩ (by decide), Int.toNat_natCast]
  have e1 : c5 a b c d e + c5 a b c d e / 16 = c5 (a + a / 16 + 16 * (b % 16)) (b + b / 16 + 16 * (c % 16)) (c + c / 16 + 16 * (d % 16)) (d + d / 16 + 16 * (e % 16)) (e + e / 16) := by unfold c5; omega
  have z := and_c5 (m := 15) (a := a + a / 16 + 16 * (b % 16)) (b := b + b / 16 + 16 * (c % 16)) (c := c + c / 16 + 16 * (d % 16)) (d := d + d / 16 + 16 * (e % 16)) (e := e + e / 16) (by omega) (by omega) (by omega) (by omega) (by omega) (by decide)
  rw [sh3 ⟨a, ha.1⟩ ⟨b % 16, by omega⟩ ha.2, sh3 ⟨b, hb.1⟩ ⟨c % 16, by omega⟩ hb.2, sh3 ⟨c, hc.1⟩ ⟨d % 16, by omega⟩ hc.2, sh3 ⟨d, hd.1⟩ ⟨e % 16, by omega⟩ hd.2] at z
  rw [e1]
  exact congrArg _ z
theorem bt4 {v : Int} (v0 : 0 ≤ v) (v1 : v < 1099511627776) : us64 v 8 = v / 256 ∧ us64 v 16 = v / 65536 ∧ us64 v 32 = v / 4294967296 := ⟨us64_id ⟨v0, by omega⟩ 8, us64_id ⟨v0, by omega⟩ 16, us64_id ⟨v0, by omega⟩ 32⟩
/-- how many of the places below 40 are in the set -/
def bcn (x : Int) : Int := ((pc8 (x.toNat % 256) + pc8 (x.toNat / 256 % 256) + pc8 (x.toNat / 65536 % 256) + pc8 (x.toNat / 16777216 % 256) + pc8 (x.toNat / 4294967296 % 256) : Nat) : Int)
theorem f_all {b : Nat} (h : b < 256) : f1 b < 256 ∧ f2 (f1 b) < 69 ∧ f2 (f1 b) % 16 ≤ 4 ∧ f3 (f2 (f1 b)) = pc8 b ∧ pc8 b ≤ 8 ∧ (b / 2 &&& 85) ≤ b := f1_in ⟨b, h⟩
theorem w32_128 (x : Int) : w32 x % 128 = x % 128 := by
  unfold w32
  rw [Int.bmod_def]
  split <;> omega
theorem bt5 {a b c d e : Nat} (ha : a ≤ 8) (hb : b ≤ 8) (hc : c ≤ 8) (hd : d ≤ 8) (he : e ≤ 8) {v : Int} (h : v = ((a + b + c + d : Nat) : Int) + 256 * (((b + c + d + e : Nat) : Int) + 256 * (((c + d + e : Nat) : Int) + 256 * (((d + e : Nat) : Int) + 256 * (e : Int))))) : (v + v / 4294967296) % 128 = ((a + b + c + d + e : Nat) : Int) := by
  have y : v / 4294967296 = e := by omega
  rw [y, h]
  omega
theorem x_bitCount {d : Nat} {h : PH} {q : PQ} (_S : Shape h) (x : Int) (hx : b40 x) (K : q (some (.inl (bcn x))) h) : Wp (d + 1) 0 0 M_J13_bitCount_95d88 0 [some (.inr (.inl x)), none] [] h q := by
  obtain ⟨x0, x1⟩ := hx
  unfold bcn at K
  have xe : x = ((c5 (x.toNat % 256) (x.toNat / 256 % 256) (x.toNat / 65536 % 256) (x.toNat / 16777216 % 256) (x.toNat / 4294967296 % 256) : Nat) : Int) := by unfold c5; omega
  have ha : x.toNat % 256 < 256 := by omega
  have hb : x.toNat / 256 % 256 < 256 := by omega
  have hc : x.toNat / 65536 % 256 < 256 := by omega
  have hd : x.toNat / 16777216 % 256 < 256 := by omega
  have he : x.toNat / 4294967296 % 256 < 256 := by omega
  generalize x.toNat % 256 = a at *
  generalize x.toNat / 256 % 256 = b at *
  generalize x.toNat / 65536 % 256 = c at *
  generalize x.toNat / 16777216 % 256 = dd at *
  generalize x.toNat / 4294967296 % 256 = e at *
  have fa := f_all ha
  have fb := f_all hb
  have fc := f_all hc
  have fd := f_all hd
  have fe := f_all he
  have e1 := bt1 ha hb hc hd he
  rw [← xe] at e1
  have l1 := c5_lt (a := a / 2 &&& 85) (b := b / 2 &&& 85) (c := c / 2 &&& 85) (d := dd / 2 &&& 85) (e := e / 2 &&& 85) (by omega) (by omega) (by omega) (by omega) (by omega)
  refine p_lload 1 rfl rfl rfl ?_
  refine p_lload 2 rfl rfl rfl ?_
  refine p_const 3 rfl rfl ?_
  refine p_lushr (z := us64 x 1) 4 rfl rfl (by decide) (by decide) rfl ?_
  refine p_lconst 7 rfl rfl ?_
  refine p_land (z := an64 (us64 x 1) 6148914691236517205) 8 rfl rfl rfl ?_
  refine p_lsub (z := x - (an64 (us64 x 1) 6148914691236517205)) 9 rfl rfl (w64_id ⟨(by omega), (by omega)⟩) ?_
  refine p_nml (fun v1 w1 => ?_)
  refine p_lstore (ls' := [some (.inr (.inl v1)), none]) 10 rfl rfl (Nat.le_of_ble_eq_true rfl) rfl ?_
  have h1 : v1 = ((c5 (f1 a) (f1 b) (f1 c) (f1 dd) (f1 e) : Nat) : Int) := by
    rw [w1, e1, xe]; unfold c5 f1; omega
  have e2 := bt2 fa.1 fb.1 fc.1 fd.1 fe.1
  have e3 := bt2' fa.1 fb.1 fc.1 fd.1 fe.1
  rw [← h1] at e2 e3
  have l2 : c5 (f1 a &&& 51) (f1 b &&& 51) (f1 c &&& 51) (f1 dd &&& 51) (f1 e &&& 51) < 1099511627776 := c5_lt (Nat.lt_of_le_of_lt Nat.and_le_right (by decide)) (Nat.lt_of_le_of_lt Nat.and_le_right (by decide)) (Nat.lt_of_le_of_lt Nat.and_le_right (by decide)) (Nat.lt_of_le_of_lt Nat.and_le_right (by decide)) (Nat.lt_of_le_of_lt Nat.and_le_right (by decide))
  have l3 : c5 (f1 a / 4 &&& 51) (f1 b / 4 &&& 51) (f1 c / 4 &&& 51) (f1 dd / 4 &&& 51) (f1 e / 4 &&& 51) < 1099511627776 := c5_lt (Nat.lt_of_le_of_lt Nat.and_le_right (by decide)) (Nat.lt_of_le_of_lt Nat.and_le_right (by decide)) (Nat.lt_of_le_of_lt Nat.and_le_right (by decide)) (Nat.lt_of_le_of_lt Nat.and_le_right (by decide)) (Nat.lt_of_le_of_lt Nat.and_le_right (by decide))
  refine p_lload 11 rfl rfl rfl ?_
  refine p_lconst 14 rfl rfl ?_
  refine p_land (z := an64 v1 3689348814741910323) 15 rfl rfl rfl ?_
  refine p_lload 16 rfl rfl rfl ?_
  refine p_const 17 rfl rfl ?_
  refine p_lushr (z := us64 v1 2) 18 rfl rfl (by decide) (by decide) rfl ?_
  refine p_lconst 21 rfl rfl ?_
  refine p_land (z := an64 (us64 v1 2) 3689348814741910323) 22 rfl rfl rfl ?_
  refine p_ladd (z := (an64 v1 3689348814741910323) + (an64 (us64 v1 2) 3689348814741910323)) 23 rfl rfl (w64_id ⟨(by omega), (by omega)⟩) ?_
  refine p_nml (fun v2 w2 => ?_)
  refine p_lstore (ls' := [some (.inr (.inl v2)), none]) 24 rfl rfl (Nat.le_of_ble_eq_true rfl) rfl ?_
  have h2 : v2 = ((c5 (f2 (f1 a)) (f2 (f1 b)) (f2 (f1 c)) (f2 (f1 dd)) (f2 (f1 e)) : Nat) : Int) := by
    rw [w2, e2, e3]; unfold c5 f2; omega
  have l4 := c5_lt (a := f2 (f1 a)) (b := f2 (f1 b)) (c := f2 (f1 c)) (d := f2 (f1 dd)) (e := f2 (f1 e)) (by omega) (by omega) (by omega) (by omega) (by omega)
  have e4 := bt3 ⟨fa.2.1, fa.2.2.1⟩ ⟨fb.2.1, fb.2.2.1⟩ ⟨fc.2.1, fc.2.2.1⟩ ⟨fd.2.1, fd.2.2.1⟩ ⟨fe.2.1, fe.2.2.1⟩
  rw [← h2] at e4
  obtain ⟨e4, e5⟩ := e4
  refine p_lload 25 rfl rfl rfl ?_
  refine p_lload 26 rfl rfl rfl ?_
  refine p_const 27 rfl rfl ?_
  refine p_lushr (z := us64 v2 4) 28 rfl rfl (by decide) (by decide) rfl ?_
  refine p_ladd (z := v2 + (us64 v2 4)) 29 rfl rfl (w64_id ⟨(by omega), (by omega)⟩) ?_
  refine p_lconst 32 rfl rfl ?_
  refine p_land (z := an64 (v2 + (us64 v2 4)) 1085102592571150095) 33 rfl rfl rfl ?_
  refine p_nml (fun v3 w3 => ?_)
  refine p_lstore (ls' := [some (.inr (.inl v3)), none]) 34 rfl rfl (Nat.le_of_ble_eq_true rfl) rfl ?_
  have h3 : v3 = ((c5 (pc8 a) (pc8 b) (pc8 c) (pc8 dd) (pc8 e) : Nat) : Int) := by
    rw [w3, e5, fa.2.2.2.1, fb.2.2.2.1, fc.2.2.2.1, fd.2.2.2.1, fe.2.2.2.1]
  unfold c5 at h3
  have t3 := bt4 (v := v3) (by omega) (by omega)
  clear e1 e2 e3 e4 e5 l1 l2 l3 l4 w1 w2 w3 h1 h2 xe x0 x1
  have fa := fa.2.2.2.2.1
  have fb := fb.2.2.2.2.1
  have fc := fc.2.2.2.2.1
  have fd := fd.2.2.2.2.1
  have fe := fe.2.2.2.2.1
  generalize pc8 a = pa at *
  generalize pc8 b = pb at *
  generalize pc8 c = pc at *
  generalize pc8 dd = pd at *
  generalize pc8 e = pe at *
  refine p_lload 35 rfl rfl rfl ?_
  refine p_lload 36 rfl rfl rfl ?_
  refine p_const 38 rfl rfl ?_
  refine p_lushr (z := us64 v3 8) 39 rfl rfl (by decide) (by decide) rfl ?_
  refine p_ladd (z := v3 + (us64 v3 8)) 40 rfl rfl (w64_id ⟨(by omega), (by omega)⟩) ?_
  refine p_lstore (ls' := [some (.inr (.inl (v3 + (us64 v3 8)))), none]) 41 rfl rfl (Nat.le_of_ble_eq_true rfl) rfl ?_
  have y1 : v3 + us64 v3 8 = ((pa + pb : Nat) : Int) + 256 * (((pb + pc : Nat) : Int) + 256 * (((pc + pd : Nat) : Int) + 256 * (((pd + pe : Nat) : Int) + 256 * (pe : Int)))) := by rw [t3.1]; omega
  have t4 := bt4 (v := v3 + us64 v3 8) (by omega) (by omega)
  refine p_lload 42 rfl rfl rfl ?_
  refine p_lload 43 rfl rfl rfl ?_
  refine p_const 45 rfl rfl ?_
  refine p_lushr (z := us64 (v3 + (us64 v3 8)) 16) 46 rfl rfl (by decide) (by decide) rfl ?_
  refine p_ladd (z := (v3 + (us64 v3 8)) + (us64 (v3 + (us64 v3 8)) 16)) 47 rfl rfl (w64_id ⟨(by omega), (by omega)⟩) ?_
  refine p_nml (fun v4 w4 => ?_)
  refine p_lstore (ls' := [some (.inr (.inl v4)), none]) 48 rfl rfl (Nat.le_of_ble_eq_true rfl) rfl ?_
  have y2 : v4 = ((pa + pb + pc + pd : Nat) : Int) + 256 * (((pb + pc + pd + pe : Nat) : Int) + 256 * (((pc + pd + pe : Nat) : Int) + 256 * (((pd + pe : Nat) : Int) + 256 * (pe : Int)))) := by rw [w4, t4.2.1]; omega
  have t5 := bt4 (v := v4) (by omega) (by omega)
  refine p_lload 49 rfl rfl rfl ?_
  refine p_lload 50 rfl rfl rfl ?_
  refine p_const 52 rfl rfl ?_
  refine p_lushr (z := us64 v4 32) 53 rfl rfl (by decide) (by decide) rfl ?_
  refine p_ladd (z := v4 + (us64 v4 32)) 54 rfl rfl (w64_id ⟨(by omega), (by omega)⟩) ?_
  refine p_lstore (ls' := [some (.inr (.inl (v4 + (us64 v4 32)))), none]) 55 rfl rfl (Nat.le_of_ble_eq_true rfl) rfl ?_
  refine p_lload 56 rfl rfl rfl ?_
  refine p_l2i (z := w32 (v4 + (us64 v4 32))) 57 rfl rfl rfl ?_
  refine p_const 59 rfl rfl ?_
  refine p_iand (z := (w32 (v4 + (us64 v4 32))) % 128) 60 rfl rfl (mask32 7 rfl (by decide)) ?_
  refine p_iret rfl rfl ?_
  -- leaf 1: answer [.inl ((w32 (v4 + (us64 v4 32))) % 128)] h=h 
  rw [show w32 (v4 + us64 v4 32) % 128 = ((pa + pb + pc + pd + pe : Nat) : Int) by rw [w32_128, t5.2.2]; exact bt5 fa fb fc fd fe y2]; exact K

