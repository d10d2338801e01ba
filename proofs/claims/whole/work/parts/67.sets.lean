/-! SETS of senses, and the fewest of them -/
def sumb (x : Nat) : Nat → Nat
  | 0 => 0
  | n + 1 => sumb x n + x / 2 ^ n % 2
theorem pc8_mod (y : Nat) : pc8 (y % 256) = y % 2 + y / 2 % 2 + y / 4 % 2 + y / 8 % 2 + y / 16 % 2 + y / 32 % 2 + y / 64 % 2 + y / 128 % 2 := by
  unfold pc8
  omega
theorem sumb8 (x n : Nat) : sumb x (n + 8) = sumb x n + pc8 (x / 2 ^ n % 256) := by
  have e : ∀ i, x / 2 ^ (n + i) = x / 2 ^ n / 2 ^ i := fun i => by rw [Nat.pow_add, Nat.div_div_eq_div_mul]
  rw [pc8_mod]
  have e0 := e 0
  have e1 := e 1
  have e2 := e 2
  have e3 := e 3
  have e4 := e 4
  have e5 := e 5
  have e6 := e 6
  have e7 := e 7
  show sumb x n + x / 2 ^ (n + 0) % 2 + x / 2 ^ (n + 1) % 2 + x / 2 ^ (n + 2) % 2 + x / 2 ^ (n + 3) % 2 + x / 2 ^ (n + 4) % 2 + x / 2 ^ (n + 5) % 2 + x / 2 ^ (n + 6) % 2 + x / 2 ^ (n + 7) % 2 = _
  rw [e0, e1, e2, e3, e4, e5, e6, e7]
  generalize x / 2 ^ n = y
  show sumb x n + y / 1 % 2 + y / 2 % 2 + y / 4 % 2 + y / 8 % 2 + y / 16 % 2 + y / 32 % 2 + y / 64 % 2 + y / 128 % 2 = _
  omega
theorem bcn_sum (x : Int) : bcn x = (sumb x.toNat 40 : Nat) := by
  have z : sumb x.toNat 40 = sumb x.toNat 0 + pc8 (x.toNat / 2 ^ 0 % 256) + pc8 (x.toNat / 2 ^ 8 % 256) + pc8 (x.toNat / 2 ^ 16 % 256) + pc8 (x.toNat / 2 ^ 24 % 256) + pc8 (x.toNat / 2 ^ 32 % 256) := by
    rw [← sumb8, ← sumb8, ← sumb8, ← sumb8, ← sumb8]
  unfold bcn
  rw [z, show sumb x.toNat 0 = 0 from rfl, Nat.zero_add, Nat.pow_zero, Nat.div_one]
def bl (x : Nat) : Nat → List Int
  | 0 => []
  | n + 1 => if x / 2 ^ n % 2 = 1 then (n : Int) :: bl x n else bl x n
theorem bl_len (x : Nat) : ∀ n : Nat, (bl x n).length = sumb x n
  | 0 => rfl
  | n + 1 => by
    have ih := bl_len x n
    unfold bl sumb
    by_cases c : x / 2 ^ n % 2 = 1
    · rw [if_pos c, List.length_cons, ih, c]
    · rw [if_neg c, ih]; omega
theorem bl_mem (x : Nat) : ∀ n : Nat, ∀ a ∈ bl x n, 0 ≤ a ∧ a < n ∧ x / 2 ^ a.toNat % 2 = 1
  | 0, a, h => absurd h List.not_mem_nil
  | n + 1, a, h => by
    unfold bl at h
    by_cases c : x / 2 ^ n % 2 = 1
    · rw [if_pos c] at h
      rcases List.mem_cons.mp h with e | e
      · rw [e]; exact ⟨by omega, by omega, by rw [Int.toNat_natCast]; exact c⟩
      · have := bl_mem x n a e; exact ⟨this.1, by omega, this.2.2⟩
    · rw [if_neg c] at h
      have := bl_mem x n a h; exact ⟨this.1, by omega, this.2.2⟩
theorem bl_nodup (x : Nat) : ∀ n : Nat, (bl x n).Nodup
  | 0 => List.nodup_nil
  | n + 1 => by
    unfold bl
    by_cases c : x / 2 ^ n % 2 = 1
    · rw [if_pos c, List.nodup_cons]
      exact ⟨fun h => by have := bl_mem x n _ h; omega, bl_nodup x n⟩
    · rw [if_neg c]; exact bl_nodup x n
theorem nodup_leI {L M : List Int} (h : L.Nodup) (s : ∀ l ∈ L, l ∈ M) : L.length ≤ M.length := by
  induction L generalizing M with
  | nil => exact Nat.zero_le _
  | cons a r ih =>
    obtain ⟨h1, h2⟩ := List.nodup_cons.mp h
    have am : a ∈ M := s a (List.mem_cons_self)
    have := ih (M := M.erase a) h2 (fun l hl => by
      refine (List.mem_erase_of_ne ?_).mpr (s l (List.mem_cons_of_mem _ hl))
      intro e; rw [e] at hl; exact h1 hl)
    rw [List.length_erase_of_mem am] at this
    have := List.length_pos_of_mem am
    show r.length + 1 ≤ M.length
    omega
theorem bit_nat' {x : Int} (x0 : 0 ≤ x) (j : Int) : bit x j = 1 ↔ x.toNat / 2 ^ j.toNat % 2 = 1 := by
  rw [bit_nat x0]; omega
/-- a set whose places all stand in l has no more places than l -/
theorem bcn_le {x : Int} (bx : b40 x) {l : List Int} (h : ∀ j, 0 ≤ j → j < 40 → bit x j = 1 → j ∈ l) : bcn x ≤ l.length := by
  rw [bcn_sum, ← bl_len]
  have := nodup_leI (bl_nodup x.toNat 40) (M := l) (fun a ha => by
    obtain ⟨a0, a1, a2⟩ := bl_mem x.toNat 40 a ha
    exact h a a0 a1 ((bit_nat' bx.1 a).2 a2))
  omega
theorem bcn_in (x : Int) : 0 ≤ bcn x ∧ bcn x ≤ 40 := by
  have : ∀ b : Nat, pc8 b ≤ 8 := fun b => by unfold pc8; omega
  have h1 := this (x.toNat % 256)
  have h2 := this (x.toNat / 256 % 256)
  have h3 := this (x.toNat / 65536 % 256)
  have h4 := this (x.toNat / 16777216 % 256)
  have h5 := this (x.toNat / 4294967296 % 256)
  unfold bcn
  omega
theorem sumb_pos {x : Nat} : ∀ {n j : Nat}, j < n → x / 2 ^ j % 2 = 1 → 1 ≤ sumb x n
  | 0, j, h, _ => by omega
  | n + 1, j, h, c => by
    unfold sumb
    by_cases z : j = n
    · rw [← z, c]; omega
    · have := sumb_pos (n := n) (j := j) (by omega) c; omega
theorem bcn_zero {x : Int} (bx : b40 x) (h : bcn x ≤ 0) : ∀ j, 0 ≤ j → j < 40 → bit x j ≠ 1 := fun j j0 j1 z => by
  have := sumb_pos (n := 40) (j := j.toNat) (by omega) ((bit_nat' bx.1 j).1 z)
  rw [bcn_sum] at h
  omega
/-! what a set lacks of a part -/
def misN (p s : Int) : Int := an64 p (xo64 s (-1))
theorem misN_bits {p s : Int} (bp : b40 p) (bs : b40 s) : b40 (misN p s) ∧ ∀ j, 0 ≤ j → (bit (misN p s) j = 1 ↔ bit p j = 1 ∧ bit s j ≠ 1) := by
  have e0 : misN p s = (BitVec.ofInt 64 p &&& (BitVec.ofInt 64 s ^^^ BitVec.ofInt 64 (-1))).toInt := by
    unfold misN an64 xo64
    rw [BitVec.ofInt_toInt]
  have np : (BitVec.ofInt 64 p).toNat = p.toNat := by rw [BitVec.toNat_ofInt, Int.emod_eq_of_lt bp.1 (by have := bp.2; show p < 18446744073709551616; omega)]
  have ns : (BitVec.ofInt 64 s).toNat = s.toNat := by rw [BitVec.toNat_ofInt, Int.emod_eq_of_lt bs.1 (by have := bs.2; show s < 18446744073709551616; omega)]
  have n1 : (BitVec.ofInt 64 (-1)).toNat = 2 ^ 64 - 1 := by decide
  have eN : (BitVec.ofInt 64 p &&& (BitVec.ofInt 64 s ^^^ BitVec.ofInt 64 (-1))).toNat = p.toNat &&& (s.toNat ^^^ (2 ^ 64 - 1)) := by rw [BitVec.toNat_and, BitVec.toNat_xor, np, ns, n1]
  have le : p.toNat &&& (s.toNat ^^^ (2 ^ 64 - 1)) ≤ p.toNat := Nat.and_le_left
  obtain ⟨p0, p1⟩ := bp
  have e1 : misN p s = ((p.toNat &&& (s.toNat ^^^ (2 ^ 64 - 1)) : Nat) : Int) := by
    rw [e0, BitVec.toInt_eq_toNat_of_lt (by rw [eN]; omega), eN]
  have bm : b40 (misN p s) := by rw [e1]; exact ⟨by omega, by omega⟩
  refine ⟨bm, fun j j0 => ?_⟩
  rw [bit_tb bm.1, bit_tb p0, bit_tb bs.1, e1, Int.toNat_natCast, Nat.testBit_and, Nat.testBit_xor, Nat.testBit_two_pow_sub_one]
  by_cases j64 : j.toNat < 64
  · rw [decide_eq_true j64]
    cases p.toNat.testBit j.toNat <;> cases s.toNat.testBit j.toNat <;> decide
  · have z : p.toNat.testBit j.toNat = false := Nat.testBit_lt_two_pow (Nat.lt_of_lt_of_le (show p.toNat < 2 ^ 64 by omega) (Nat.pow_le_pow_right (by decide) (by omega)))
    rw [z]
    cases s.toNat.testBit j.toNat <;> simp
/-- a set is told by its places -/
theorem b40_ext {u v : Int} (bu : b40 u) (bv : b40 v) (h : ∀ j, 0 ≤ j → j < 40 → (bit u j = 1 ↔ bit v j = 1)) : u = v := by
  have e : u.toNat = v.toNat := by
    apply Nat.eq_of_testBit_eq
    intro i
    by_cases c : i < 40
    · have y := h i (by omega) (by omega)
      rw [bit_tb bu.1, bit_tb bv.1, Int.toNat_natCast] at y
      cases cu : u.toNat.testBit i <;> cases cv : v.toNat.testBit i <;> rw [cu, cv] at y <;> first | rfl | (exfalso; revert y; decide)
    · have lt : ∀ w : Int, b40 w → w.toNat.testBit i = false := fun w bw => by
        apply Nat.testBit_lt_two_pow
        have : 2 ^ 40 ≤ 2 ^ i := Nat.pow_le_pow_right (by decide) (by omega)
        have e : (2 : Nat) ^ 40 = 1099511627776 := by decide
        have := bw.2
        omega
      rw [lt u bu, lt v bv]
  have := bu.1
  have := bv.1
  omega
/-- the number of the set of places where P holds -/
noncomputable def bsN (P : Int → Prop) : Int := @dite _ (∃ u, b40 u ∧ ∀ j, 0 ≤ j → j < 40 → (bit u j = 1 ↔ P j)) (Classical.propDecidable _) (fun e => Classical.choose e) (fun _ => 0)
theorem bsN_eq {P : Int → Prop} {u : Int} (b : b40 u) (h : ∀ j, 0 ≤ j → j < 40 → (bit u j = 1 ↔ P j)) : u = bsN P := by
  have e : ∃ u, b40 u ∧ ∀ j, 0 ≤ j → j < 40 → (bit u j = 1 ↔ P j) := ⟨u, b, h⟩
  have s := Classical.choose_spec e
  unfold bsN
  rw [dif_pos e]
  exact b40_ext b s.1 (fun j j0 j1 => (h j j0 j1).trans (s.2 j j0 j1).symm)
/-! hits -/
abbrev P4 : Type := List Int
/-- one part at least of each cut stands whole in S -/
def hitsL (C : List P4) (S : List Int) : Prop := ∀ c ∈ C, ∃ p ∈ c, p ≠ 0 ∧ ∀ j, 0 ≤ j → j < 40 → bit p j = 1 → j ∈ S
theorem hitsL_sub {C : List P4} {S T : List Int} (H : hitsL C S) (e : ∀ x ∈ S, x ∈ T) : hitsL C T := fun c hc => by
  obtain ⟨p, hp, n, h⟩ := H c hc
  exact ⟨p, hp, n, fun j j0 j1 b => e j (h j j0 j1 b)⟩
def flF (g : Int → List Int → Option (List Int)) (S : List Int) : Nat → Int → Option (List Int)
  | 0, _ => none
  | c + 1, s => match g (s + 1) (s :: S) with
    | some l => some (s :: l)
    | none => flF g S c (s + 1)
/-- the first rising row of r senses from least on, below m, that makes of S a set that hits -/
noncomputable def fnd (C : List P4) (m : Int) : Nat → Int → List Int → Option (List Int)
  | 0, _, S => @ite _ (hitsL C S) (Classical.propDecidable _) (some []) none
  | r + 1, least, S => flF (fun s T => fnd C m r s T) S (m - least).toNat least
theorem fnd_zero {C : List P4} {m least : Int} {S : List Int} : (hitsL C S → fnd C m 0 least S = some []) ∧ (¬ hitsL C S → fnd C m 0 least S = none) := ⟨fun h => if_pos h, fun h => if_neg h⟩
theorem flF_some {g : Int → List Int → Option (List Int)} {S : List Int} : ∀ {c : Nat} {s : Int} {l : List Int}, flF g S c s = some l → ∃ x l', l = x :: l' ∧ s ≤ x ∧ x < s + c ∧ g (x + 1) (x :: S) = some l'
  | 0, s, l, h => by cases h
  | c + 1, s, l, h => by
    unfold flF at h
    cases e : g (s + 1) (s :: S) with
    | some l' =>
      rw [e] at h
      cases h
      exact ⟨s, l', rfl, by omega, by omega, e⟩
    | none =>
      rw [e] at h
      obtain ⟨x, l', a, b, d, f⟩ := flF_some (c := c) h
      exact ⟨x, l', a, by omega, by omega, f⟩
theorem fnd_some {C : List P4} {m : Int} : ∀ {r : Nat} {least : Int} {S l : List Int}, fnd C m r least S = some l → l.length = r ∧ (∀ x ∈ l, least ≤ x ∧ x < m) ∧ hitsL C (l ++ S)
  | 0, least, S, l, h => by
    by_cases c : hitsL C S
    · rw [fnd_zero.1 c] at h; cases h
      exact ⟨rfl, fun x hx => absurd hx List.not_mem_nil, c⟩
    · rw [fnd_zero.2 c] at h; cases h
  | r + 1, least, S, l, h => by
    obtain ⟨x, l', a, b, d, f⟩ := flF_some h
    obtain ⟨f1, f2, f3⟩ := fnd_some f
    subst a
    refine ⟨by rw [List.length_cons, f1], fun y hy => ?_, hitsL_sub f3 (fun y hy => ?_)⟩
    · rcases List.mem_cons.mp hy with e | e
      · rw [e]; omega
      · have := f2 y e; omega
    · rcases List.mem_append.mp hy with e | e
      · exact List.mem_append.mpr (Or.inl (List.mem_cons_of_mem _ e))
      · rcases List.mem_cons.mp e with e | e
        · rw [e]; exact List.mem_append.mpr (Or.inl List.mem_cons_self)
        · exact List.mem_append.mpr (Or.inr e)
/-- the class's test ahead of a search -/
def okPt (p s least more : Int) : Prop := p ≠ 0 ∧ (∀ j, 0 ≤ j → j < 40 → bit (misN p s) j = 1 → least ≤ j) ∧ bcn (misN p s) ≤ more
def canL (C : List P4) (s least more : Int) : Prop := ∀ c ∈ C, ∃ p ∈ c, okPt p s least more
def setL (s : Int) (S : List Int) : Prop := b40 s ∧ ∀ j, 0 ≤ j → j < 40 → (bit s j = 1 ↔ j ∈ S)
theorem canL_need {C : List P4} {m least s : Int} {r : Nat} {S l : List Int} (C40 : ∀ c ∈ C, ∀ p ∈ c, b40 p) (e : setL s S) (h : fnd C m r least S = some l) : canL C s least r := fun c hc => by
  obtain ⟨f1, f2, f3⟩ := fnd_some h
  obtain ⟨p, hp, n, H⟩ := f3 c hc
  have mb := misN_bits (C40 c hc p hp) e.1
  have inl : ∀ j, 0 ≤ j → j < 40 → bit (misN p s) j = 1 → j ∈ l := fun j j0 j1 b => by
    obtain ⟨b1, b2⟩ := (mb.2 j j0).1 b
    rcases List.mem_append.mp (H j j0 j1 b1) with z | z
    · exact z
    · exact absurd ((e.2 j j0 j1).2 z) b2
  refine ⟨p, hp, n, fun j j0 j1 b => (f2 j (inl j j0 j1 b)).1, ?_⟩
  have := bcn_le mb.1 inl
  omega
theorem canL_zero {C : List P4} {m least s : Int} {S : List Int} (C40 : ∀ c ∈ C, ∀ p ∈ c, b40 p) (e : setL s S) : canL C s least 0 ↔ hitsL C S := by
  constructor
  · intro H c hc
    obtain ⟨p, hp, n, _, h⟩ := H c hc
    have mb := misN_bits (C40 c hc p hp) e.1
    refine ⟨p, hp, n, fun j j0 j1 b => ?_⟩
    have := bcn_zero mb.1 h j j0 j1
    rw [← (e.2 j j0 j1)]
    apply Classical.byContradiction
    intro z
    exact this ((mb.2 j j0).2 ⟨b, z⟩)
  · intro H
    have := canL_need (m := m) (least := least) C40 e (fnd_zero.1 H)
    exact this
theorem setL_add {s x : Int} {S : List Int} (e : setL s S) (x0 : 0 ≤ x) (x1 : x < 40) : setL (or64 s (w64 (1 * 2 ^ x.toNat))) (x :: S) := by
  refine ⟨or_in64 e.1 (by omega), fun j j0 j1 => ?_⟩
  rw [or_bit64 e.1 x0 (by omega) j0, List.mem_cons]
  by_cases z : j = x
  · rw [if_pos z]; exact ⟨fun _ => Or.inl z, fun _ => rfl⟩
  · rw [if_neg z]; exact ⟨fun y => Or.inr ((e.2 j j0 j1).1 y), fun y => (e.2 j j0 j1).2 (y.resolve_left z)⟩
theorem setL_nil : setL 0 [] := ⟨⟨by decide, by decide⟩, fun j _ _ => by rw [bit_zero]; exact ⟨fun y => absurd y (by decide), fun y => absurd y List.not_mem_nil⟩⟩

