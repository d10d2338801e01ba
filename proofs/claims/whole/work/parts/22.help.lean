/-! HELP: reading stores, masks, quotients -/
theorem sv_eq (h : PH) (a i v : Int) : gv (sv h a i v) a i = v := by rw [gv_sv, if_pos ⟨rfl, rfl⟩]
theorem sv_ne {h : PH} {a i v b j : Int} (hb : b ≠ a) : gv (sv h a i v) b j = gv h b j := by rw [gv_sv, if_neg (fun z => hb z.1)]
theorem sv_nf {h : PH} {a i v b j : Int} (hj : j ≠ i) : gv (sv h a i v) b j = gv h b j := by rw [gv_sv, if_neg (fun z => hj z.2)]
theorem wsub_id {x c : Int} (h : -2147483648 ≤ x - c ∧ x - c < 2147483648) : w32 (x + (-c)) = x - c := by
  rw [← Int.sub_eq_add_neg]; exact w32_id h
theorem dv32_id {x y : Int} (hx : 0 ≤ x) (hx2 : x < 2147483648) (hy : 0 < y) : w32 (Int.tdiv x y) = x / y := by
  rw [Int.tdiv_eq_ediv_of_nonneg hx]
  have h1 := Int.ediv_nonneg hx (Int.le_of_lt hy)
  have h2 : x / y ≤ x := Int.ediv_le_self y hx
  exact w32_id ⟨by omega, by omega⟩
theorem dv64_id {x y : Int} (hx : 0 ≤ x) (hx2 : x < 9223372036854775808) (hy : 0 < y) : w64 (Int.tdiv x y) = x / y := by
  rw [Int.tdiv_eq_ediv_of_nonneg hx]
  have h1 := Int.ediv_nonneg hx (Int.le_of_lt hy)
  have h2 : x / y ≤ x := Int.ediv_le_self y hx
  exact w64_id ⟨by omega, by omega⟩
theorem rm_id {x y : Int} (hx : 0 ≤ x) (hy : 0 < y) : Int.tmod x y = x % y := Int.tmod_eq_emod_of_nonneg hx
theorem an32_nat {x y : Int} (hx : 0 ≤ x ∧ x < 2147483648) (hy : 0 ≤ y ∧ y < 4294967296) : an32 x y = ((x.toNat &&& y.toNat : Nat) : Int) := by
  unfold an32
  have e : (BitVec.ofInt 32 x &&& BitVec.ofInt 32 y).toNat = x.toNat &&& y.toNat := by
    rw [BitVec.toNat_and, BitVec.toNat_ofInt, BitVec.toNat_ofInt, Int.emod_eq_of_lt hx.1 (by have := hx.2; show x < 4294967296; omega), Int.emod_eq_of_lt hy.1 (by have := hy.2; show y < 4294967296; omega)]
  have hle : x.toNat &&& y.toNat ≤ x.toNat := Nat.and_le_left
  rw [BitVec.toInt_eq_toNat_of_lt (by rw [e]; omega), e]
theorem mask32 {x m M : Int} (k : Nat) (hM : (2 : Int) ^ k = M) (hk : m + 1 = M ∧ k ≤ 30) : an32 x m = x % M := by
  obtain ⟨hm, hk⟩ := hk
  subst hM
  have h1 : 1 ≤ 2 ^ k := Nat.one_le_two_pow
  have hm' : m = ((2 ^ k - 1 : Nat) : Int) := by
    rw [Int.ofNat_sub h1]
    push_cast
    omega
  have hp : 2 ^ k ≤ 2 ^ 30 := Nat.pow_le_pow_right (by decide) hk
  have hq : (2 : Nat) * 2 ^ 30 < 2 ^ 32 := by decide
  have hx0 := Int.emod_nonneg x (show (4294967296 : Int) ≠ 0 by decide)
  have e1 : (((2 ^ k - 1 : Nat) : Int) % ((2 ^ 32 : Nat) : Int)).toNat = 2 ^ k - 1 := by
    rw [← Int.natCast_emod, Int.toNat_natCast]
    exact Nat.mod_eq_of_lt (by omega)
  have e : (BitVec.ofInt 32 x &&& BitVec.ofInt 32 m).toNat = (x % 4294967296).toNat % 2 ^ k := by
    rw [BitVec.toNat_and, BitVec.toNat_ofInt, BitVec.toNat_ofInt, hm', e1, Nat.and_two_pow_sub_one_eq_mod]
    rfl
  have hlt : (x % 4294967296).toNat % 2 ^ k < 2 ^ k := Nat.mod_lt _ (by omega)
  have hd : ((2 : Int) ^ k) ∣ 4294967296 := ⟨2 ^ (32 - k), by
    have h9 : (4294967296 : Int) = 2 ^ 32 := by decide
    rw [h9, ← Int.pow_add]
    congr 1
    omega⟩
  unfold an32
  rw [BitVec.toInt_eq_toNat_of_lt (by omega), e, Int.natCast_emod, Int.toNat_of_nonneg hx0, Int.natCast_pow]
  exact Int.emod_emod_of_dvd x hd
theorem an32_comm (x y : Int) : an32 x y = an32 y x := by unfold an32; rw [BitVec.and_comm]
theorem mask32r {x m M : Int} (k : Nat) (hM : (2 : Int) ^ k = M) (hk : m + 1 = M ∧ k ≤ 30) : an32 m x = x % M := by rw [an32_comm]; exact mask32 k hM hk
theorem mask64 {x m M : Int} (k : Nat) (hM : (2 : Int) ^ k = M) (hk : m + 1 = M ∧ k ≤ 62) : an64 x m = x % M := by
  obtain ⟨hm, hk⟩ := hk
  subst hM
  have h1 : 1 ≤ 2 ^ k := Nat.one_le_two_pow
  have hm' : m = ((2 ^ k - 1 : Nat) : Int) := by
    rw [Int.ofNat_sub h1]
    push_cast
    omega
  have hp : 2 ^ k ≤ 2 ^ 62 := Nat.pow_le_pow_right (by decide) hk
  have hq : (2 : Nat) * 2 ^ 62 < 2 ^ 64 := by decide
  have hx0 := Int.emod_nonneg x (show (18446744073709551616 : Int) ≠ 0 by decide)
  have e1 : (((2 ^ k - 1 : Nat) : Int) % ((2 ^ 64 : Nat) : Int)).toNat = 2 ^ k - 1 := by
    rw [← Int.natCast_emod, Int.toNat_natCast]
    exact Nat.mod_eq_of_lt (by omega)
  have e : (BitVec.ofInt 64 x &&& BitVec.ofInt 64 m).toNat = (x % 18446744073709551616).toNat % 2 ^ k := by
    rw [BitVec.toNat_and, BitVec.toNat_ofInt, BitVec.toNat_ofInt, hm', e1, Nat.and_two_pow_sub_one_eq_mod]
    rfl
  have hlt : (x % 18446744073709551616).toNat % 2 ^ k < 2 ^ k := Nat.mod_lt _ (by omega)
  have hd : ((2 : Int) ^ k) ∣ 18446744073709551616 := ⟨2 ^ (64 - k), by
    have h9 : (18446744073709551616 : Int) = 2 ^ 64 := by decide
    rw [h9, ← Int.pow_add]
    congr 1
    omega⟩
  unfold an64
  rw [BitVec.toInt_eq_toNat_of_lt (by omega), e, Int.natCast_emod, Int.toNat_of_nonneg hx0, Int.natCast_pow]
  exact Int.emod_emod_of_dvd x hd
abbrev cpH := @cp
theorem Shape.cp {h : PH} {b : Int} (S : Shape h) (hf : finA b = true) (a sp dp n : Int) : Shape (cpH h a sp b dp n) := by
  unfold finA at hf
  rw [Bool.and_eq_true, decide_eq_true_eq] at hf
  have g : ∀ x j, x ≠ b → gv (cpH h a sp b dp n) x j = gv h x j := by
    intro x j hx
    show (if x = b ∧ _ then _ else _) = _
    rw [if_neg (fun z => hx z.1)]
  refine ⟨S.1, S.2.1, fun e he => ?_, fun s h0 h1 => ?_⟩
  · exact (g _ _ (of_decide_eq_true (List.all_eq_true.mp hf.2 e he))).trans (S.2.2.1 e he)
  · exact (g _ _ (fun z => hf.1 z.symm)).trans (S.2.2.2 s h0 h1)
