/-! PLAN: the best way to send names, as a function -/
theorem sg_nu {c : Nat → Int} : ∀ n : Nat, n ≤ 4 → (∀ i, i < n → 1 ≤ c i ∧ c i ≤ 29) → ∀ k : Nat, k < n → sg (nu c n) n k = c k
  | 0, _, _, k, hk => by omega
  | n + 1, hn, h, k, hk => by
    have b := h n (by omega)
    show sg (nu c n * 32 + c n) ((n + 1 : Nat) : Int) k = c k
    rw [show ((n + 1 : Nat) : Int) = (n : Int) + 1 from rfl]
    by_cases z : k = n
    · rw [z, sg_hi (by omega) (by omega)]
    · rw [sg_lo (by omega) (by omega) (by omega) (by omega) (by omega)]; exact sg_nu n (by omega) (fun i hi => h i (by omega)) k (by omega)
theorem letters_of_nu {c : Nat → Int} {n : Nat} (n1 : 1 ≤ n) (n4 : n ≤ 4) (h : ∀ i, i < n → 1 ≤ c i ∧ c i ≤ 26) : letters (nu c n) ∧ rl (nu c n) = n := by
  have h' : ∀ i, i < n → 1 ≤ c i ∧ c i ≤ 29 := fun i hi => by have := h i hi; omega
  have r := rl_nu n1 n4 h'
  refine ⟨⟨by rw [r]; omega, fun k k0 k1 => ?_⟩, r⟩
  rw [r] at k1 ⊢
  have := sg_nu n n4 h' k.toNat (by omega)
  rw [Int.toNat_of_nonneg k0] at this
  rw [this]
  exact h k.toNat (by omega)
theorem nu_of_letters {v : Int} (g : letters v) : v = nu (fun i => sg v (rl v) i) (rl v).toNat := by
  have b := rl_in v
  have vb := rl_pos g.1
  have gp := g.1
  have hr : (rl v = 1 ∧ v < 32) ∨ (rl v = 2 ∧ v < 1024) ∨ (rl v = 3 ∧ v < 32768) ∨ (rl v = 4 ∧ v < 1048576) := by unfold rl; (repeat' split) <;> omega
  rcases hr with ⟨r, y⟩ | ⟨r, y⟩ | ⟨r, y⟩ | ⟨r, y⟩ <;> rw [r]
  · show v = 0 * 32 + v / 1 % 32; omega
  · show v = (0 * 32 + v / 32 % 32) * 32 + v / 1 % 32; omega
  · show v = ((0 * 32 + v / 1024 % 32) * 32 + v / 32 % 32) * 32 + v / 1 % 32; omega
  · show v = (((0 * 32 + v / 32768 % 32) * 32 + v / 1024 % 32) * 32 + v / 32 % 32) * 32 + v / 1 % 32; omega
/-- a row and, behind it, another one -/
def app (x y : Int) : Int := x * 2 ^ (5 * rl y).toNat + y
theorem nu_app {c c' : Nat → Int} (a : Nat) : ∀ b : Nat, nu c a * 32 ^ b + nu c' b = nu (fun i => if i < a then c i else c' (i - a)) (a + b)
  | 0 => by
    rw [Int.pow_zero, Int.mul_one]
    show nu c a + 0 = nu _ a
    rw [Int.add_zero]
    exact nu_congr a (fun i hi => (if_pos hi).symm)
  | b + 1 => by
    have ih := nu_app (c := c) (c' := c') a b
    show _ = nu (fun i => if i < a then c i else c' (i - a)) (a + b) * 32 + (if a + b < a then c (a + b) else c' (a + b - a))
    rw [← ih, if_neg (by omega), Nat.add_sub_cancel_left, Int.pow_succ, Int.add_mul, Int.mul_assoc]
    show _ + (nu c' b * 32 + c' b) = _
    omega
theorem p5p {m : Int} (m0 : 0 ≤ m) (m4 : m ≤ 4) : (2 : Int) ^ (5 * m).toNat = 32 ^ m.toNat := by
  rcases (show m = 0 ∨ m = 1 ∨ m = 2 ∨ m = 3 ∨ m = 4 by omega) with rfl | rfl | rfl | rfl | rfl <;> rfl
theorem app_letters {x y : Int} (gx : x = 0 ∨ letters x) (gy : letters y) (h : rl x + rl y ≤ 4) : letters (app x y) ∧ rl (app x y) = rl x + rl y := by
  have bx := rl_in x
  have ry := rl_in y
  have yp := gy.1
  have ey := nu_of_letters gy
  have ex : x = nu (fun i => sg x (rl x) i) (rl x).toNat := by
    rcases gx with e | g
    · rw [e]; rfl
    · exact nu_of_letters g
  have hx : ∀ i : Nat, i < (rl x).toNat → 1 ≤ sg x (rl x) i ∧ sg x (rl x) i ≤ 26 := fun i hi => by
    rcases gx with e | g
    · rw [e] at hi; have : (rl 0).toNat = 0 := rfl; omega
    · exact g.2 i (by omega) (by omega)
  have e : app x y = nu (fun i => if i < (rl x).toNat then sg x (rl x) i else sg y (rl y) ((i - (rl x).toNat : Nat) : Int)) ((rl x).toNat + (rl y).toNat) := by
    unfold app
    rw [p5p (by omega) ry.2, ← nu_app (c := fun i => sg x (rl x) i) (c' := fun i => sg y (rl y) i), ← ex, ← ey]
  have l := letters_of_nu (c := fun i => if i < (rl x).toNat then sg x (rl x) i else sg y (rl y) ((i - (rl x).toNat : Nat) : Int)) (n := (rl x).toNat + (rl y).toNat) (by omega) (by omega) (fun i hi => by
    by_cases z : i < (rl x).toNat
    · show 1 ≤ (if i < (rl x).toNat then sg x (rl x) i else _) ∧ (if i < (rl x).toNat then sg x (rl x) i else _) ≤ 26
      rw [if_pos z]; exact hx i z
    · show 1 ≤ (if i < (rl x).toNat then sg x (rl x) i else sg y (rl y) ((i - (rl x).toNat : Nat) : Int)) ∧ (if i < (rl x).toNat then sg x (rl x) i else sg y (rl y) ((i - (rl x).toNat : Nat) : Int)) ≤ 26
      rw [if_neg z]; exact gy.2 _ (by omega) (by omega))
  rw [e]
  refine ⟨l.1, ?_⟩
  rw [l.2]; omega
theorem rl_lt {v : Int} (g : letters v) : 1 ≤ v ∧ v < 2 ^ (5 * rl v).toNat := by
  have vb := rl_pos g.1
  have gp := g.1
  have hr : (rl v = 1 ∧ v < 32) ∨ (rl v = 2 ∧ v < 1024) ∨ (rl v = 3 ∧ v < 32768) ∨ (rl v = 4 ∧ v < 1048576) := by unfold rl; (repeat' split) <;> omega
  rcases hr with ⟨r, y⟩ | ⟨r, y⟩ | ⟨r, y⟩ | ⟨r, y⟩ <;> rw [r]
  · exact ⟨by omega, y⟩
  · exact ⟨by omega, y⟩
  · exact ⟨by omega, y⟩
  · exact ⟨by omega, y⟩
theorem rl_hi {v n : Int} (v0 : 0 ≤ v) (v1 : v < 1048576) (h : rl v ≤ n) (n0 : 0 ≤ n) (n3 : n ≤ 3) : v < 2 ^ (5 * n).toNat := by
  rcases (show n = 0 ∨ n = 1 ∨ n = 2 ∨ n = 3 by omega) with rfl | rfl | rfl | rfl
  · show v < 1; unfold rl at h; (repeat' split at h) <;> omega
  · show v < 32; unfold rl at h; (repeat' split at h) <;> omega
  · show v < 1024; unfold rl at h; (repeat' split at h) <;> omega
  · show v < 32768; unfold rl at h; (repeat' split at h) <;> omega
/-- the class's way to put a code behind a row -/
theorem or_app {x y : Int} (gx : x = 0 ∨ letters x) (gy : letters y) (h : rl x + rl y ≤ 4) : or32 (w32 (x * 2 ^ (5 * rl y).toNat)) y = app x y := by
  have bx := rl_in x
  have by' := rl_in y
  have yp := gy.1
  have yl := rl_lt gy
  have xb : 0 ≤ x ∧ x < 1048576 := by
    rcases gx with e | g
    · rw [e]; decide
    · have := rl_pos g.1; omega
  have xh := rl_hi (n := 4 - rl y) xb.1 xb.2 (by omega) (by omega) (by omega)
  unfold app
  have key : ∀ (m : Nat) (M N : Int), (2 : Int) ^ m = M → M * N = 1048576 → x < N → y < M → 0 < M → or32 (w32 (x * M)) y = x * M + y := by
    intro m M N e1 e2 h1 h2 h3
    have hxM : x * M < 1048576 := by rw [← e2, Int.mul_comm M N]; exact Int.mul_lt_mul_of_pos_right h1 h3
    have hx0 : 0 ≤ x * M := Int.mul_nonneg xb.1 (by omega)
    have hM : M ≤ 1048576 := by
      apply Decidable.byContradiction
      intro z
      have : 1 ≤ N := by omega
      have := Int.mul_le_mul_of_nonneg_left this (show 0 ≤ M by omega)
      omega
    rw [w32_id ⟨by omega, by omega⟩, or32_nat ⟨by omega, by omega⟩ ⟨by omega, by omega⟩]
    have h := Nat.two_pow_add_eq_or_of_lt (i := m) (b := y.toNat) (by
      have : ((2 ^ m : Nat) : Int) = M := by rw [Int.natCast_pow]; exact e1
      omega) x.toNat
    have e3 : (x * M).toNat = 2 ^ m * x.toNat := by
      have : ((2 ^ m * x.toNat : Nat) : Int) = x * M := by
        rw [Int.natCast_mul, Int.natCast_pow, Int.toNat_of_nonneg xb.1, Int.mul_comm]
        exact congrArg _ e1
      omega
    rw [e3, ← h, ← e3]
    omega
  rcases (show rl y = 1 ∨ rl y = 2 ∨ rl y = 3 ∨ rl y = 4 by omega) with r | r | r | r <;> rw [r] at yl xh ⊢
  · exact key 5 32 32768 rfl rfl xh yl.2 (by decide)
  · exact key 10 1024 1024 rfl rfl xh yl.2 (by decide)
  · exact key 15 32768 32 rfl rfl xh yl.2 (by decide)
  · exact key 20 1048576 1 rfl rfl xh yl.2 (by decide)
noncomputable def hoF (v L R : Int) : Int := @ite _ (∀ k : Nat, (k : Int) < rl v → hs (hu v (rl v) L R k) v (rl v) k L R ≠ 0) (Classical.propDecidable _) (hh v (rl v) L R (rl v).toNat) (-1)
theorem HoistR.eq {v L R r : Int} (a : HoistR v L R r) : r = hoF v L R := by
  unfold hoF
  rcases a with ⟨a, e⟩ | ⟨⟨k, k0, k1⟩, e⟩
  · rw [if_pos a]; exact e
  · rw [if_neg (fun z => z k k0 k1)]; exact e
abbrev Q4t : Type := Int × Int × Int × Int
/-- whether c hoists of s signs, the first one w, are better than what there is -/
def btr (u : Q4t) (c s w : Int) : Prop := c < u.1 ∨ (c = u.1 ∧ (s < u.2.1 ∨ (s = u.2.1 ∧ w < u.2.2.1)))
noncomputable def stpF (cnt sgn hst : Int → Int) (pln : Int → Prop) (u : Q4t) (x : Int × Int × Int) : Q4t :=
  @ite _ (cnt x.1 < 1000 ∧ hst x.2.1 ≠ -1 ∧ btr u (cnt x.1 + 1) (sgn x.1 + x.2.2) (hst x.2.1) ∧ pln x.2.1) (Classical.propDecidable _) (cnt x.1 + 1, sgn x.1 + x.2.2, hst x.2.1, x.1) u
/-- all parts that begin with name i, in their order: (the name behind the part, its row, its signs) -/
def cxl (hold idf cds ids : Int → Int) (g : Int → Int → Int → List (Int × Int × Int)) (i row used : Int) : Nat → Int → List (Int × Int × Int)
  | 0, _ => []
  | c + 1, j => (if hold j = 1 ∧ idf j = ids i ∧ used + rl (cds j) ≤ 4 then (i + 1, app row (cds j), used + rl (cds j)) :: g (i + 1) (app row (cds j)) (used + rl (cds j)) else []) ++ cxl hold idf cds ids g i row used c (j + 1)
def cx (hold idf cds ids : Int → Int) (m : Nat) (n : Int) : Nat → Int → Int → Int → List (Int × Int × Int)
  | 0, _, _, _ => []
  | f + 1, i, row, used => if i < n then cxl hold idf cds ids (fun a b c => cx hold idf cds ids m n f a b c) i row used m 0 else []
theorem cxl_full {hold idf cds ids : Int → Int} {g : Int → Int → Int → List (Int × Int × Int)} {i row used : Int} (h4 : 4 ≤ used) : ∀ (c : Nat) (j : Int), (∀ x, j ≤ x → x < j + c → 1 ≤ rl (cds x)) → cxl hold idf cds ids g i row used c j = []
  | 0, _, _ => rfl
  | c + 1, j, h => by
    have := h j (Int.le_refl j) (by omega)
    unfold cxl
    rw [if_neg (by omega), cxl_full h4 c (j + 1) (fun x x0 x1 => h x (by omega) (by omega))]
    rfl
theorem cx_full {hold idf cds ids : Int → Int} {m : Nat} {n i row used : Int} (h4 : 4 ≤ used) (h : ∀ x : Int, 0 ≤ x → x < (m : Int) → 1 ≤ rl (cds x)) (f : Nat) : cx hold idf cds ids m n f i row used = [] := by
  cases f with
  | zero => rfl
  | succ f =>
    show (if i < n then _ else []) = []
    by_cases z : i < n
    · rw [if_pos z]; exact cxl_full h4 m 0 (fun x x0 x1 => h x x0 (by omega))
    · rw [if_neg z]
theorem cx_end {hold idf cds ids : Int → Int} {m : Nat} {n i row used : Int} (h : n ≤ i) (f : Nat) : cx hold idf cds ids m n f i row used = [] := by
  cases f with
  | zero => rfl
  | succ f =>
    show (if i < n then _ else []) = []
    rw [if_neg (by omega)]
def sdA (f a i : Int) : Bool := decide ((a = 24 ∧ (i = 4 ∨ i = 9 ∨ i = 10)) ∨ (25 ≤ a ∧ a ≤ 28) ∨ ((34 ≤ a ∧ a ≤ 37) ∧ i = f))
theorem sdA_bkB (f : Int) : ∀ a i, bkB a i = false → sdA f a i = false := fun a i => dw (by omega)
theorem rA_sdA (f : Int) : ∀ a i, sdA f a i = false → rA a i = false := fun a i => dw (by omega)
theorem sdA_prep (f : Int) : ∀ a i, bkB a i = false ∨ (a = 24 ∧ (i = 2 ∨ i = 3)) → sdA f a i = false := fun a i z => decide_eq_false (fun y => by
  rcases z with z | z
  · exact of_decide_eq_false z (by omega)
  · omega)
theorem sdA_no {f a i : Int} (h : ¬ ((a = 24 ∧ (i = 4 ∨ i = 9 ∨ i = 10)) ∨ (25 ≤ a ∧ a ≤ 28) ∨ ((34 ≤ a ∧ a ≤ 37) ∧ i = f))) : sdA f a i = false := decide_eq_false h
theorem sdA_yes {f a i : Int} (h : (34 ≤ a ∧ a ≤ 37) ∧ i = f) : sdA f a i = true := decide_eq_true (Or.inr (Or.inr h))
/-- the class's best from name f on is u -/
def PX (h : PH) (f : Int) (u : Q4t) : Prop := gv h 36 f = u.1 ∧ (u.1 < 1000 → gv h 37 f = u.2.1 ∧ gv h 34 f = u.2.2.1 ∧ gv h 35 f = u.2.2.2)
/-- what the planning from name f on stands on -/
def PB (h : PH) (a k s t z n f : Int) : Prop := BkR h a k ∧ Prep h a k s t z ∧ FI h ∧ (0 ≤ s ∧ s < 10) ∧ (gv h 32 3 = n ∧ 1 ≤ n ∧ n ≤ 12) ∧ gv h 32 4 = a ∧ gv h 32 5 = s ∧ (0 ≤ f ∧ f < n) ∧ (∀ j, f < j → j ≤ n → gv h 36 j = 1000 ∨ ((0 ≤ gv h 36 j ∧ gv h 36 j ≤ 12) ∧ 0 ≤ gv h 37 j ∧ gv h 37 j ≤ 48))
noncomputable abbrev SX1 (h : PH) (k s t z : Int) : Q4t → Int × Int × Int → Q4t := stpF (fun j => gv h 36 j) (fun j => gv h 37 j) (fun v => hoF v (gv h 6 s) (gv h 7 s)) (fun v => ∃ l, only (Rd (Ws h k s t z) v) l)
abbrev CX1 (h : PH) (k s t z n : Int) : Nat → Int → Int → Int → List (Int × Int × Int) := cx (fun j => tv h k s t z j) (fun j => fi h k j) (fun j => cd h k j) (fun i => gv h 33 i) (gv h 79 k).toNat n
theorem PlainR.ne {W : Int → Int → Prop} {v r : Int} (p : PlainR W v r) (g : letters v) (hW : ∀ c id, W c id → 0 ≤ id ∧ id < 40) : r ≠ -1 ↔ ∃ l, only (Rd W v) l := by
  rcases p with ⟨l, o, e⟩ | ⟨n, e⟩
  · have := enc_in (Rd.ok hW ((o l).2 rfl))
    exact ⟨fun _ => ⟨l, o⟩, fun _ => by omega⟩
  · exact ⟨fun z => absurd e z, fun z => absurd z n⟩
theorem stpF_pos {cnt sgn hst : Int → Int} {pln : Int → Prop} {u : Q4t} {x : Int × Int × Int} (h : cnt x.1 < 1000 ∧ hst x.2.1 ≠ -1 ∧ btr u (cnt x.1 + 1) (sgn x.1 + x.2.2) (hst x.2.1) ∧ pln x.2.1) : stpF cnt sgn hst pln u x = (cnt x.1 + 1, sgn x.1 + x.2.2, hst x.2.1, x.1) := if_pos h
theorem stpF_neg {cnt sgn hst : Int → Int} {pln : Int → Prop} {u : Q4t} {x : Int × Int × Int} (h : ¬ (cnt x.1 < 1000 ∧ hst x.2.1 ≠ -1 ∧ btr u (cnt x.1 + 1) (sgn x.1 + x.2.2) (hst x.2.1) ∧ pln x.2.1)) : stpF cnt sgn hst pln u x = u := if_neg h
def btH (h : PH) (f j w used : Int) : Prop := gv h 36 j + 1 < gv h 36 f ∨ (gv h 36 j + 1 = gv h 36 f ∧ (gv h 37 j + used < gv h 37 f ∨ (gv h 37 j + used = gv h 37 f ∧ w < gv h 34 f)))
theorem x_isBetter {d : Nat} {h : PH} {q : PQ} (S : Shape h) (f j w used : Int) (f0 : 0 ≤ f) (f1 : f ≤ 12) (j0 : 0 ≤ j) (j1 : j ≤ 12) (c0 : 0 ≤ gv h 36 j) (c1 : gv h 36 j ≤ 12) (s0 : 0 ≤ gv h 37 j) (s1 : gv h 37 j ≤ 48) (u0 : 0 ≤ used) (u4 : used ≤ 4)
    (K1 : btH h f j w used → q (some (.inl 1)) h) (K2 : ¬ btH h f j w used → q (some (.inl 0)) h) : Wp (d + 1) 0 0 M_X7_isBetter 0 [some (.inr (.inr 32)), some (.inl f), some (.inl j), some (.inl w), some (.inl used), none, none] [] h q := by
  unfold btH at K1 K2
  refine p_aload 1 rfl rfl rfl ?_
  refine p_getfr (j := 8) (z := 36) 4 rfl rfl rfl (tg_32 S) rfl (fi_32_8 S) ?_
  refine p_iload 5 rfl rfl rfl ?_
  refine p_iald (w := 13) (z := gv h 36 j) 6 rfl rfl (tg_36 S) (ln_36 S) (by omega) (by omega) rfl ?_
  refine p_const 7 rfl rfl ?_
  refine p_iadd (z := (gv h 36 j) + 1) 8 rfl rfl (w32_id ⟨(by omega), (by omega)⟩) ?_
  refine p_istore (ls' := [some (.inr (.inr 32)), some (.inl f), some (.inl j), some (.inl w), some (.inl used), some (.inl ((gv h 36 j) + 1)), none]) 10 rfl rfl (Nat.le_of_ble_eq_true rfl) rfl ?_
  refine p_aload 11 rfl rfl rfl ?_
  refine p_getfr (j := 9) (z := 37) 14 rfl rfl rfl (tg_32 S) rfl (fi_32_9 S) ?_
  refine p_iload 15 rfl rfl rfl ?_
  refine p_iald (w := 13) (z := gv h 37 j) 16 rfl rfl (tg_37 S) (ln_37 S) (by omega) (by omega) rfl ?_
  refine p_iload 18 rfl rfl rfl ?_
  refine p_iadd (z := (gv h 37 j) + used) 19 rfl rfl (w32_id ⟨(by omega), (by omega)⟩) ?_
  refine p_istore (ls' := [some (.inr (.inr 32)), some (.inl f), some (.inl j), some (.inl w), some (.inl used), some (.inl ((gv h 36 j) + 1)), some (.inl ((gv h 37 j) + used))]) 21 rfl rfl (Nat.le_of_ble_eq_true rfl) rfl ?_
  refine p_iload 23 rfl rfl rfl ?_
  refine p_aload 24 rfl rfl rfl ?_
  refine p_getfr (j := 8) (z := 36) 27 rfl rfl rfl (tg_32 S) rfl (fi_32_8 S) ?_
  refine p_iload 28 rfl rfl rfl ?_
  refine p_iald (w := 13) (z := gv h 36 f) 29 rfl rfl (tg_36 S) (ln_36 S) (by omega) (by omega) rfl ?_
  refine p_ic_eq 32 49 rfl rfl rfl (fun c1 => ?_) (fun c1 => ?_)
  · skip
    refine p_iload 51 rfl rfl rfl ?_
    refine p_aload 52 rfl rfl rfl ?_
    refine p_getfr (j := 9) (z := 37) 55 rfl rfl rfl (tg_32 S) rfl (fi_32_9 S) ?_
    refine p_iload 56 rfl rfl rfl ?_
    refine p_iald (w := 13) (z := gv h 37 f) 57 rfl rfl (tg_37 S) (ln_37 S) (by omega) (by omega) rfl ?_
    refine p_ic_eq 60 79 rfl rfl rfl (fun c2 => ?_) (fun c2 => ?_)
    · skip
      refine p_iload 80 rfl rfl rfl ?_
      refine p_aload 81 rfl rfl rfl ?_
      refine p_getfr (j := 6) (z := 34) 84 rfl rfl rfl (tg_32 S) rfl (fi_32_6 S) ?_
      refine p_iload 85 rfl rfl rfl ?_
      refine p_iald (w := 13) (z := gv h 34 f) 86 rfl rfl (tg_34 S) (ln_34 S) (by omega) (by omega) rfl ?_
      refine p_ic_ge 89 93 rfl rfl rfl (fun c3 => ?_) (fun c3 => ?_)
      · skip
        refine p_const 94 rfl rfl ?_
        refine p_zret rfl rfl (by decide) ?_
        -- leaf 1: answer [.inl 0] h=h 
        first | exact K1 (by omega) | exact K2 (by omega)
      · skip
        refine p_const 90 rfl rfl ?_
        refine p_goto 94 rfl rfl ?_
        refine p_zret rfl rfl (by decide) ?_
        -- leaf 2: answer [.inl 1] h=h 
        first | exact K1 (by omega) | exact K2 (by omega)
    · skip
      refine p_iload 62 rfl rfl rfl ?_
      refine p_aload 63 rfl rfl rfl ?_
      refine p_getfr (j := 9) (z := 37) 66 rfl rfl rfl (tg_32 S) rfl (fi_32_9 S) ?_
      refine p_iload 67 rfl rfl rfl ?_
      refine p_iald (w := 13) (z := gv h 37 f) 68 rfl rfl (tg_37 S) (ln_37 S) (by omega) (by omega) rfl ?_
      refine p_ic_ge 71 75 rfl rfl rfl (fun c4 => ?_) (fun c4 => ?_)
      · skip
        refine p_const 76 rfl rfl ?_
        refine p_goto 94 rfl rfl ?_
        refine p_zret rfl rfl (by decide) ?_
        -- leaf 3: answer [.inl 0] h=h 
        first | exact K1 (by omega) | exact K2 (by omega)
      · skip
        refine p_const 72 rfl rfl ?_
        refine p_goto 94 rfl rfl ?_
        refine p_zret rfl rfl (by decide) ?_
        -- leaf 4: answer [.inl 1] h=h 
        first | exact K1 (by omega) | exact K2 (by omega)
  · skip
    refine p_iload 34 rfl rfl rfl ?_
    refine p_aload 35 rfl rfl rfl ?_
    refine p_getfr (j := 8) (z := 36) 38 rfl rfl rfl (tg_32 S) rfl (fi_32_8 S) ?_
    refine p_iload 39 rfl rfl rfl ?_
    refine p_iald (w := 13) (z := gv h 36 f) 40 rfl rfl (tg_36 S) (ln_36 S) (by omega) (by omega) rfl ?_
    refine p_ic_ge 43 47 rfl rfl rfl (fun c5 => ?_) (fun c5 => ?_)
    · skip
      refine p_const 48 rfl rfl ?_
      refine p_zret rfl rfl (by decide) ?_
      -- leaf 5: answer [.inl 0] h=h 
      first | exact K1 (by omega) | exact K2 (by omega)
    · skip
      refine p_const 44 rfl rfl ?_
      refine p_goto 48 rfl rfl ?_
      refine p_zret rfl rfl (by decide) ?_
      -- leaf 6: answer [.inl 1] h=h 
      first | exact K1 (by omega) | exact K2 (by omega)
theorem x_offer1 {d : Nat} {h : PH} {q : PQ} {a k s t z n f : Int} (B : PB h a k s t z n f) (j row used : Int) {u : Q4t} {h1 : PH} (S1 : Shape h1) (k1 : Keep (sdA f) h h1) (P : PX h1 f u) (j0 : f < j) (j1 : j ≤ n) (g : letters row) (hu : rl row = used)
    (K : ∀ (w : Option PV) h', Shape h' → Keep (sdA f) h h' → PX h' f (SX1 h k s t z u (j, row, used)) → Wp (d + 8) 0 0 M_X7_offer 105 [some (.inr (.inr 32)), some (.inl f), some (.inl j), some (.inl row), some (.inl used), w] [] h' q) :
    Wp (d + 8) 0 0 M_X7_offer 0 [some (.inr (.inr 32)), some (.inl f), some (.inl j), some (.inl row), some (.inl used), none] [] h1 q := by
  obtain ⟨R, Pr, F, hs, ⟨b1, b2, b3⟩, b4, b5, ⟨f0, f1⟩, b6⟩ := B
  have rb := rl_in row
  have kB := k1.wide (sdA_bkB f)
  have c5 : gv h1 32 5 = s := (k1.1 32 5 (sdA_no (by omega))).trans b5
  have cj := b6 j j0 j1
  have e36 : gv h1 36 j = gv h 36 j := k1.1 36 j (sdA_no (by omega))
  have e37 : gv h1 37 j = gv h 37 j := k1.1 37 j (sdA_no (by omega))
  have F1 := F.kp kB
  have e6 : gv h1 6 s = gv h 6 s := kB.1 6 s rfl
  have e7 : gv h1 7 s = gv h 7 s := kB.1 7 s rfl
  have hB : ∀ s, 0 ≤ s → s < 10 → 0 ≤ gv h1 6 s ∧ gv h1 6 s < 67108864 ∧ 0 ≤ gv h1 7 s ∧ gv h1 7 s ≤ 3 := fun s s0 s1 => by
    have := F1.lk s s0 s1; have := F1.rp s s0 s1; omega
  have n40 := R.2.1
  have hW : ∀ c id, Ws h k s t z c id → 0 ≤ id ∧ id < 40 := fun c id y => y.in n40
  obtain ⟨P1, P2⟩ := P
  have no : ∀ (w : Option PV), ¬ (gv h 36 j < 1000 ∧ hoF row (gv h 6 s) (gv h 7 s) ≠ -1 ∧ btr u (gv h 36 j + 1) (gv h 37 j + used) (hoF row (gv h 6 s) (gv h 7 s)) ∧ ∃ l, only (Rd (Ws h k s t z) row) l) → ∀ h', Shape h' → Keep rA h1 h' → Wp (d + 8) 0 0 M_X7_offer 105 [some (.inr (.inr 32)), some (.inl f), some (.inl j), some (.inl row), some (.inl used), w] [] h' q := by
    intro w nn h' S' k'
    refine K w h' S' (k1.trans (k'.wide (rA_sdA f))) ?_
    rw [show SX1 h k s t z u (j, row, used) = u from stpF_neg nn]
    exact ⟨(k'.1 36 f (decide_eq_false (by omega))).trans P1, fun y => by
      have := P2 y
      rw [k'.1 37 f (decide_eq_false (by omega)), k'.1 34 f (decide_eq_false (by omega)), k'.1 35 f (decide_eq_false (by omega))]; exact this⟩
  have bt : ∀ r : Int, btr u (gv h 36 j + 1) (gv h 37 j + used) r ↔ (gv h 36 j + 1 < u.1 ∨ (gv h 36 j + 1 = u.1 ∧ (gv h 37 j + used < u.2.1 ∨ (gv h 37 j + used = u.2.1 ∧ r < u.2.2.1)))) := fun r => Iff.rfl
  refine p_aload 1 rfl rfl rfl ?_
  refine p_getfr (j := 8) (z := 36) 4 rfl rfl rfl (tg_32 S1) rfl (fi_32_8 S1) ?_
  refine p_iload 5 rfl rfl rfl ?_
  refine p_iald (w := 13) (z := (gv h 36 j)) 6 rfl rfl (tg_36 S1) (ln_36 S1) (by omega) (by omega) e36 ?_
  refine p_const 9 rfl rfl ?_
  refine p_ic_ge 12 27 rfl rfl rfl (fun c1 => ?_) (fun c1 => ?_)
  · skip
    refine p_const 28 rfl rfl ?_
    refine p_istore (ls' := [some (.inr (.inr 32)), some (.inl f), some (.inl j), some (.inl row), some (.inl used), some (.inl (-1))]) 30 rfl rfl (Nat.le_of_ble_eq_true rfl) rfl ?_
    refine p_iload 32 rfl rfl rfl ?_
    refine p_const 33 rfl rfl ?_
    refine p_ic_eq_t 105 rfl rfl (by decide) ?_
    -- leaf 1: loop 105 [some (.inr (.inr 32)), some (.inl f), some (.inl j), some (.inl row), some (.inl used), some (.inl (-1))] st=[] h=h1 
    exact no _ (fun y => absurd y.1 (by omega)) h1 S1 (Keep.rf _ _)
  · skip
    refine p_aload 13 rfl rfl rfl ?_
    refine p_getfr (j := 0) (z := 5) 16 rfl rfl rfl (tg_32 S1) rfl (fi_32_0 S1) ?_
    refine p_aload 17 rfl rfl rfl ?_
    refine p_getfi (j := 5) (z := s) 20 rfl rfl rfl (tg_32 S1) rfl c5 ?_
    refine p_iload 21 rfl rfl rfl ?_
    refine p_callv (le := [some (.inr (.inr 5)), some (.inl s), some (.inl row), none, none, none, none, none]) (as := [.inr (.inr 5), .inl s, .inl row]) (rest := []) 24 0 0 0 0 rfl rfl (Nat.le_of_ble_eq_true rfl) rfl (Nat.le_of_ble_eq_true rfl) rfl rfl (Nat.le_of_ble_eq_true rfl) rfl (Nat.le_of_ble_eq_true rfl) rfl (Nat.le_refl _) (Nat.le_refl _) rfl rfl (tg_5 S1) ?_
    refine x_hoistFor S1 s row hs.1 hs.2 hB g (fun r2 p2 => ?_)
    show Wp (d + 8) 0 0 M_X7_offer 24 [some (.inr (.inr 32)), some (.inl f), some (.inl j), some (.inl row), some (.inl used), none] [.inl r2] h1 _
    have er : r2 = hoF row (gv h 6 s) (gv h 7 s) := by have y := p2.eq; rw [e6, e7] at y; exact y
    clear p2
    have bti : btH h1 f j r2 used ↔ btr u (gv h 36 j + 1) (gv h 37 j + used) (hoF row (gv h 6 s) (gv h 7 s)) := by
      unfold btH btr
      rw [e36, e37, P1, ← er]
      constructor
      · rintro (y | ⟨y, y2⟩)
        · exact Or.inl y
        · have y3 := P2 (by omega); rw [y3.1, y3.2.1] at y2; exact Or.inr ⟨y, y2⟩
      · rintro (y | ⟨y, y2⟩)
        · exact Or.inl y
        · have y3 := P2 (by omega); rw [← y3.1, ← y3.2.1] at y2; exact Or.inr ⟨y, y2⟩
    refine p_goto 28 rfl rfl ?_
    refine p_istore (ls' := [some (.inr (.inr 32)), some (.inl f), some (.inl j), some (.inl row), some (.inl used), some (.inl r2)]) 30 rfl rfl (Nat.le_of_ble_eq_true rfl) rfl ?_
    refine p_iload 32 rfl rfl rfl ?_
    refine p_const 33 rfl rfl ?_
    refine p_ic_eq 36 105 rfl rfl rfl (fun c3 => ?_) (fun c3 => ?_)
    · skip
      -- leaf 2: loop 105 [some (.inr (.inr 32)), some (.inl f), some (.inl j), some (.inl row), some (.inl used), some (.inl r2)] st=[] h=h1 
      exact no _ (fun y => y.2.1 (by rw [← er]; exact c3)) h1 S1 (Keep.rf _ _)
    · skip
      refine p_aload 37 rfl rfl rfl ?_
      refine p_iload 38 rfl rfl rfl ?_
      refine p_iload 39 rfl rfl rfl ?_
      refine p_iload 41 rfl rfl rfl ?_
      refine p_iload 43 rfl rfl rfl ?_
      refine p_callv (le := [some (.inr (.inr 32)), some (.inl f), some (.inl j), some (.inl r2), some (.inl used), none, none]) (as := [.inr (.inr 32), .inl f, .inl j, .inl r2, .inl used]) (rest := []) 46 0 0 0 0 rfl rfl (Nat.le_of_ble_eq_true rfl) rfl (Nat.le_of_ble_eq_true rfl) rfl rfl (Nat.le_of_ble_eq_true rfl) rfl (Nat.le_of_ble_eq_true rfl) rfl (Nat.le_refl _) (Nat.le_refl _) rfl rfl (tg_32 S1) ?_
      refine x_isBetter S1 f j r2 used (by omega) (by omega) (by omega) (by omega) (by omega) (by omega) (by omega) (by omega) (by omega) (by omega) (fun c4 => ?_) (fun c4 => ?_)
      · show Wp (d + 8) 0 0 M_X7_offer 46 [some (.inr (.inr 32)), some (.inl f), some (.inl j), some (.inl row), some (.inl used), some (.inl r2)] [.inl 1] h1 _
        refine p_if_eq_f 49 rfl rfl (by decide) ?_
        refine p_aload 50 rfl rfl rfl ?_
        refine p_getfr (j := 1) (z := 24) 53 rfl rfl rfl (tg_32 S1) rfl (fi_32_1 S1) ?_
        refine p_iload 54 rfl rfl rfl ?_
        refine p_callv (le := [some (.inr (.inr 24)), some (.inl row)]) (as := [.inr (.inr 24), .inl row]) (rest := []) 57 0 0 0 0 rfl rfl (Nat.le_of_ble_eq_true rfl) rfl (Nat.le_of_ble_eq_true rfl) rfl rfl (Nat.le_of_ble_eq_true rfl) rfl (Nat.le_of_ble_eq_true rfl) rfl (Nat.le_refl _) (Nat.le_refl _) rfl rfl (tg_24 S1) ?_
        refine x_plainRow S1 row (R.kp kB) (Pr.kp k1 (sdA_prep f)) g (fun r5 y5 p5 S5 => ?_)
        show Wp (d + 8) 0 0 M_X7_offer 57 [some (.inr (.inr 32)), some (.inl f), some (.inl j), some (.inl row), some (.inl used), some (.inl r2)] [.inl r5] y5 _
        have pne : r5 ≠ -1 ↔ ∃ l, only (Rd (Ws h k s t z) row) l := by have y := p5.2.2; rw [Ws_congr kB] at y; exact y.ne g hW
        have z36 : gv y5 36 j = gv h 36 j := (p5.1.1 36 j (decide_eq_false (by omega))).trans e36
        have z37 : gv y5 37 j = gv h 37 j := (p5.1.1 37 j (decide_eq_false (by omega))).trans e37
        refine p_const 58 rfl rfl ?_
        refine p_ic_eq 61 105 rfl rfl rfl (fun c6 => ?_) (fun c6 => ?_)
        · skip
          -- leaf 3: loop 105 [some (.inr (.inr 32)), some (.inl f), some (.inl j), some (.inl row), some (.inl used), some (.inl r2)] st=[] h=y5 
          exact no _ (fun y => pne.2 y.2.2.2 c6) _ S5 p5.1
        · skip
          refine p_aload 62 rfl rfl rfl ?_
          refine p_getfr (j := 6) (z := 34) 65 rfl rfl rfl (tg_32 S5) rfl (fi_32_6 S5) ?_
          refine p_iload 66 rfl rfl rfl ?_
          refine p_iload 68 rfl rfl rfl ?_
          refine p_iast (w := 13) 69 rfl rfl (by decide) (tg_34 S5) (ln_34 S5) (by omega) (by omega) ?_
          refine p_nmh (fun y7 e7 => ?_)
          have S7 : Shape y7 := by rw [e7]; exact S5.svA fa_34 _ _
          refine p_aload 70 rfl rfl rfl ?_
          refine p_getfr (j := 7) (z := 35) 73 rfl rfl rfl (tg_32 S7) rfl (fi_32_7 S7) ?_
          refine p_iload 74 rfl rfl rfl ?_
          refine p_iload 75 rfl rfl rfl ?_
          refine p_iast (w := 13) 76 rfl rfl (by decide) (tg_35 S7) (ln_35 S7) (by omega) (by omega) ?_
          refine p_nmh (fun y8 e8 => ?_)
          have S8 : Shape y8 := by rw [e8]; exact S7.svA fa_35 _ _
          refine p_aload 77 rfl rfl rfl ?_
          refine p_getfr (j := 8) (z := 36) 80 rfl rfl rfl (tg_32 S8) rfl (fi_32_8 S8) ?_
          refine p_iload 81 rfl rfl rfl ?_
          refine p_aload 82 rfl rfl rfl ?_
          refine p_getfr (j := 8) (z := 36) 85 rfl rfl rfl (tg_32 S8) rfl (fi_32_8 S8) ?_
          refine p_iload 86 rfl rfl rfl ?_
          refine p_iald (w := 13) (z := gv y5 36 j) 87 rfl rfl (tg_36 S8) (ln_36 S8) (by omega) (by omega) (by rw [e8, sv_ne (by decide)]; rw [e7, sv_ne (by decide)]) ?_
          refine p_const 88 rfl rfl ?_
          refine p_iadd (z := (gv y5 36 j) + 1) 89 rfl rfl (w32_id ⟨(by omega), (by omega)⟩) ?_
          refine p_iast (w := 13) 90 rfl rfl (by decide) (tg_36 S8) (ln_36 S8) (by omega) (by omega) ?_
          refine p_nmh (fun y9 e9 => ?_)
          have S9 : Shape y9 := by rw [e9]; exact S8.svA fa_36 _ _
          refine p_aload 91 rfl rfl rfl ?_
          refine p_getfr (j := 9) (z := 37) 94 rfl rfl rfl (tg_32 S9) rfl (fi_32_9 S9) ?_
          refine p_iload 95 rfl rfl rfl ?_
          refine p_aload 96 rfl rfl rfl ?_
          refine p_getfr (j := 9) (z := 37) 99 rfl rfl rfl (tg_32 S9) rfl (fi_32_9 S9) ?_
          refine p_iload 100 rfl rfl rfl ?_
          refine p_iald (w := 13) (z := gv y5 37 j) 101 rfl rfl (tg_37 S9) (ln_37 S9) (by omega) (by omega) (by rw [e9, sv_ne (by decide)]; rw [e8, sv_ne (by decide)]; rw [e7, sv_ne (by decide)]) ?_
          refine p_iload 103 rfl rfl rfl ?_
          refine p_iadd (z := (gv y5 37 j) + used) 104 rfl rfl (w32_id ⟨(by omega), (by omega)⟩) ?_
          refine p_iast (w := 13) 105 rfl rfl (by decide) (tg_37 S9) (ln_37 S9) (by omega) (by omega) ?_
          refine p_nmh (fun y10 e10 => ?_)
          have S10 : Shape y10 := by rw [e10]; exact S9.svA fa_37 _ _
          -- leaf 4: loop 105 [some (.inr (.inr 32)), some (.inl f), some (.inl j), some (.inl row), some (.inl used), some (.inl r2)] st=[] h=y10 e10,e9,e8,e7
          refine K _ _ S10 ?_ ?_
          · rw [e10, e9, e8, e7]; exact ((((k1.trans (p5.1.wide (rA_sdA f))).sv (sdA_yes (by omega)) _).sv (sdA_yes (by omega)) _).sv (sdA_yes (by omega)) _).sv (sdA_yes (by omega)) _
          · rw [show SX1 h k s t z u (j, row, used) = (gv h 36 j + 1, gv h 37 j + used, hoF row (gv h 6 s) (gv h 7 s), j) from stpF_pos ⟨by show gv h 36 j < 1000; omega, by rw [← er]; exact c3, bti.1 c4, pne.1 c6⟩]
            refine ⟨by rw [e10, e9, e8, e7, sv_ne (by decide), sv_eq, z36], fun _ => ⟨by rw [e10, e9, e8, e7, sv_eq, z37], by rw [e10, e9, e8, e7, sv_ne (by decide), sv_ne (by decide), sv_ne (by decide), sv_eq]; exact er, by rw [e10, e9, e8, e7, sv_ne (by decide), sv_ne (by decide), sv_eq]⟩⟩
      · show Wp (d + 8) 0 0 M_X7_offer 46 [some (.inr (.inr 32)), some (.inl f), some (.inl j), some (.inl row), some (.inl used), some (.inl r2)] [.inl 0] h1 _
        refine p_if_eq_t 105 rfl rfl (by decide) ?_
        -- leaf 5: loop 105 [some (.inr (.inr 32)), some (.inl f), some (.inl j), some (.inl row), some (.inl used), some (.inl r2)] st=[] h=h1 
        exact no _ (fun y => c4 (bti.2 y.2.2.1)) h1 S1 (Keep.rf _ _)
theorem x_extend {h : PH} {a k s t z n f : Int} (B : PB h a k s t z n f) :
    ∀ (fu d : Nat) (q : PQ) (i row used : Int) (u : Q4t) (h1 : PH), 4 ≤ (fu : Int) + used → 0 ≤ used → used < 4 → f ≤ i → i < n → ((row = 0 ∧ used = 0) ∨ (letters row ∧ rl row = used)) → Shape h1 → Keep (sdA f) h h1 → PX h1 f u →
      (∀ h', (Keep (sdA f) h h' ∧ PX h' f (List.foldl (SX1 h k s t z) u (CX1 h k s t z n fu i row used))) → Shape h' → q none h') → Wp (d + 2 * fu + 7) 0 0 M_X7_extend 0 [some (.inr (.inr 32)), some (.inl f), some (.inl i), some (.inl row), some (.inl used), none, none] [] h1 q := by
  have B0 := B
  obtain ⟨R, Pr, F, hs, ⟨b1, b2, b3⟩, b4, b5, ⟨f0, f1⟩, b6⟩ := B
  obtain ⟨m0, m40, pl, pl0, pl7, Bk, I⟩ := R
  have a0 := Bk.ge
  intro fu
  induction fu with
  | zero => intro d q i row used u h1 hf u0 u4; omega
  | succ fu ih =>
    intro d q i row used u h1 hf u0 u4 fi1 i1 hr S1 k1 P K
    have rrow : rl row = used := by rcases hr with ⟨e1, e2⟩ | ⟨_, e⟩; rw [e1, e2]; rfl; exact e
    have rlet : row = 0 ∨ letters row := by rcases hr with ⟨e1, _⟩ | ⟨e, _⟩; exact Or.inl e1; exact Or.inr e
    have ihs := fun q i row used u h1 => ih d q i row used u h1
    show Wp (d + 2 * fu + 9) 0 0 M_X7_extend 0 _ _ _ _
    generalize hD : d + 2 * fu = D
    have eD : d + 2 * fu + 7 = D + 7 := by omega
    rw [eD] at ihs
    have rl1 : ∀ x : Int, 0 ≤ x → x < ((gv h 79 k).toNat : Int) → 1 ≤ rl (cd h k x) := fun x x0 x1 => by
      obtain ⟨_, ⟨_, g⟩, _⟩ := I x x0 (by omega)
      exact g.1
    have hcx : CX1 h k s t z n (fu + 1) i row used = cxl (fun j => tv h k s t z j) (fun j => fi h k j) (fun j => cd h k j) (fun i => gv h 33 i) (fun a b c => CX1 h k s t z n fu a b c) i row used (gv h 79 k).toNat 0 := if_pos i1
    rw [hcx] at K
    have ofr : ∀ (j row' used' : Int) (u1 : Q4t) (h2 : PH) (q2 : PQ), f < j → j ≤ n → letters row' → rl row' = used' → used' ≤ 4 → used + 1 ≤ used' → Shape h2 → Keep (sdA f) h h2 → PX h2 f u1 →
        (∀ h', (Keep (sdA f) h h' ∧ PX h' f (List.foldl (SX1 h k s t z) u1 ((j, row', used') :: CX1 h k s t z n fu j row' used'))) → Shape h' → q2 none h') → Wp (D + 8) 0 0 M_X7_offer 0 [some (.inr (.inr 32)), some (.inl f), some (.inl j), some (.inl row'), some (.inl used'), none] [] h2 q2 := by
      intro j row' used' u1 h2 q2 j0 j1 g hu u4' uu S2 k2 P2 K2
      refine x_offer1 B0 j row' used' S2 k2 P2 j0 j1 g hu (fun w h3 S3 k3 P3 => ?_)
      have c3 : gv h3 32 3 = n := (k3.1 32 3 (sdA_no (by omega))).trans b1
      refine p_iload 106 rfl rfl rfl ?_
      refine p_aload 107 rfl rfl rfl ?_
      refine p_getfi (j := 3) (z := n) 110 rfl rfl rfl (tg_32 S3) rfl c3 ?_
      refine p_ic_ge 113 128 rfl rfl rfl (fun c1 => ?_) (fun c1 => ?_)
      · skip
        refine p_ret rfl rfl ?_
        -- leaf 1: answer [] h=h3 
        have e0 : CX1 h k s t z n fu j row' used' = [] := cx_end (by omega) fu
        refine K2 h3 ⟨k3, ?_⟩ S3
        rw [e0]; exact P3
      · skip
        refine p_iload 115 rfl rfl rfl ?_
        refine p_const 116 rfl rfl ?_
        refine p_ic_ge 119 128 rfl rfl rfl (fun c2 => ?_) (fun c2 => ?_)
        · skip
          refine p_ret rfl rfl ?_
          -- leaf 2: answer [] h=h3 
          have e0 : CX1 h k s t z n fu j row' used' = [] := cx_full (by omega) rl1 fu
          refine K2 h3 ⟨k3, ?_⟩ S3
          rw [e0]; exact P3
        · skip
          refine p_aload 120 rfl rfl rfl ?_
          refine p_iload 121 rfl rfl rfl ?_
          refine p_iload 122 rfl rfl rfl ?_
          refine p_iload 123 rfl rfl rfl ?_
          refine p_iload 125 rfl rfl rfl ?_
          refine p_callv (le := [some (.inr (.inr 32)), some (.inl f), some (.inl j), some (.inl row'), some (.inl used'), none, none]) (as := [.inr (.inr 32), .inl f, .inl j, .inl row', .inl used']) (rest := []) 128 0 0 0 0 rfl rfl (Nat.le_of_ble_eq_true rfl) rfl (Nat.le_of_ble_eq_true rfl) rfl rfl (Nat.le_of_ble_eq_true rfl) rfl (Nat.le_of_ble_eq_true rfl) rfl (Nat.le_refl _) (Nat.le_refl _) rfl rfl (tg_32 S3) ?_
          refine ihs _ j row' used' _ h3 (by omega) (by omega) (by omega) (by omega) (by omega) (Or.inr ⟨g, hu⟩) S3 k3 P3 (fun y3 p3 S3 => ?_)
          show Wp (D + 8) 0 0 M_X7_offer 128 [some (.inr (.inr 32)), some (.inl f), some (.inl j), some (.inl row'), some (.inl used'), w] [] y3 _
          refine p_ret rfl rfl ?_
          -- leaf 3: answer [] h=y3 
          exact K2 _ p3 S3
    have L : ∀ (c : Nat) (j : Int) (u1 : Q4t) (w6 : Option PV) (h2 : PH), j + c = gv h 79 k → 0 ≤ j → Shape h2 → Keep (sdA f) h h2 → PX h2 f u1 →
        List.foldl (SX1 h k s t z) u (cxl (fun j => tv h k s t z j) (fun j => fi h k j) (fun j => cd h k j) (fun i => gv h 33 i) (fun a b c => CX1 h k s t z n fu a b c) i row used (gv h 79 k).toNat 0) = List.foldl (SX1 h k s t z) u1 (cxl (fun j => tv h k s t z j) (fun j => fi h k j) (fun j => cd h k j) (fun i => gv h 33 i) (fun a b c => CX1 h k s t z n fu a b c) i row used c j) →
        Wp (D + 9) 0 0 M_X7_extend 3 [some (.inr (.inr 32)), some (.inl f), some (.inl i), some (.inl row), some (.inl used), some (.inl j), w6] [] h2 q := by
      intro c
      induction c with
      | zero =>
        intro j u1 w6 h2 hj j0 S2 k2 P2 hl
        have q4 : gv h2 32 4 = a := (k2.1 32 4 (sdA_no (by omega))).trans b4
        have Bk2 := Bk.kp k2 (fun a i ha => sdA_no (by omega))
        have q0 := Bk2.f0
        refine p_aload 4 rfl rfl rfl ?_
        refine p_getfr (j := 4) (z := a) 7 rfl rfl rfl (tg_32 S2) rfl q4 ?_
        refine p_ifnull 10 110 rfl rfl rfl (fun z => absurd z (by omega)) (fun c1 => ?_)
        refine p_iload 12 rfl rfl rfl ?_
        refine p_aload 13 rfl rfl rfl ?_
        refine p_getfr (j := 4) (z := a) 16 rfl rfl rfl (tg_32 S2) rfl q4 ?_
        refine p_getfi (j := 0) (z := gv h2 a 0) 19 rfl rfl rfl Bk2.tag rfl rfl ?_
        refine p_ic_ge_t 110 rfl rfl (by omega) ?_
        refine p_ret rfl rfl ?_
        -- leaf 1: answer [] h=h2 
        exact K h2 ⟨k2, by rw [hl]; exact P2⟩ S2
      | succ c ihc =>
        intro j u1 w6 h2 hj j0 S2 k2 P2 hl
        have q4 : gv h2 32 4 = a := (k2.1 32 4 (sdA_no (by omega))).trans b4
        have q3 : gv h2 32 3 = n := (k2.1 32 3 (sdA_no (by omega))).trans b1
        have Bk2 := Bk.kp k2 (fun a i ha => sdA_no (by omega))
        have q0 := Bk2.f0
        obtain ⟨I1, ⟨I2, I2'⟩, I3, I4, _⟩ := I j j0 (by omega)
        have e5 : gv h2 (a + 5) j = rl (cd h k j) := (k2.1 _ _ (sdA_no (by omega))).trans I3
        have e6 : gv h2 (a + 6) j = fi h k j := (k2.1 _ _ (sdA_no (by omega))).trans (fi_eq m0 I4)
        have e2 : gv h2 (a + 2) j = cd h k j := (k2.1 _ _ (sdA_no (by omega))).trans I2
        have e33 : gv h2 33 i = gv h 33 i := k2.1 33 i (sdA_no (by omega))
        have e24 : bit (gv h2 24 3) j = tv h k s t z j := by rw [k2.1 24 3 (sdA_no (by omega))]; exact Pr.2.2 j j0 (by omega)
        have rc := rl_in (cd h k j)
        have rp := I2'.1
        have hlu : cxl (fun j => tv h k s t z j) (fun j => fi h k j) (fun j => cd h k j) (fun i => gv h 33 i) (fun a b c => CX1 h k s t z n fu a b c) i row used (c + 1) j = (if tv h k s t z j = 1 ∧ fi h k j = gv h 33 i ∧ used + rl (cd h k j) ≤ 4 then (i + 1, app row (cd h k j), used + rl (cd h k j)) :: CX1 h k s t z n fu (i + 1) (app row (cd h k j)) (used + rl (cd h k j)) else []) ++ cxl (fun j => tv h k s t z j) (fun j => fi h k j) (fun j => cd h k j) (fun i => gv h 33 i) (fun a b c => CX1 h k s t z n fu a b c) i row used c (j + 1) := rfl
        have skip : ∀ w, ¬ (tv h k s t z j = 1 ∧ fi h k j = gv h 33 i ∧ used + rl (cd h k j) ≤ 4) → Wp (D + 9) 0 0 M_X7_extend 3 [some (.inr (.inr 32)), some (.inl f), some (.inl i), some (.inl row), some (.inl used), some (.inl (j + 1)), w] [] h2 q := fun w nn =>
          ihc (j + 1) u1 w h2 (by omega) (by omega) S2 k2 P2 (by rw [hl, hlu, if_neg nn]; rfl)
        refine p_aload 4 rfl rfl rfl ?_
        refine p_getfr (j := 4) (z := a) 7 rfl rfl rfl (tg_32 S2) rfl q4 ?_
        refine p_ifnull 10 110 rfl rfl rfl (fun z => absurd z (by omega)) (fun c1 => ?_)
        refine p_iload 12 rfl rfl rfl ?_
        refine p_aload 13 rfl rfl rfl ?_
        refine p_getfr (j := 4) (z := a) 16 rfl rfl rfl (tg_32 S2) rfl q4 ?_
        refine p_getfi (j := 0) (z := gv h2 a 0) 19 rfl rfl rfl Bk2.tag rfl rfl ?_
        refine p_ic_ge_f 22 rfl rfl (by omega) ?_
        refine p_aload 23 rfl rfl rfl ?_
        refine p_getfr (j := 4) (z := a) 26 rfl rfl rfl (tg_32 S2) rfl q4 ?_
        refine p_getfr (j := 3) (z := a + 5) 29 rfl rfl rfl Bk2.tag rfl Bk2.f3 ?_
        refine p_iload 31 rfl rfl rfl ?_
        refine p_iald (w := (gv h 79 k)) (z := (rl (cd h k j))) 32 rfl rfl (Bk2.t5) (Bk2.l5) (by omega) (by omega) e5 ?_
        refine p_istore (ls' := [some (.inr (.inr 32)), some (.inl f), some (.inl i), some (.inl row), some (.inl used), some (.inl j), some (.inl (rl (cd h k j)))]) 34 rfl rfl (Nat.le_of_ble_eq_true rfl) rfl ?_
        refine p_aload 35 rfl rfl rfl ?_
        refine p_getfr (j := 4) (z := a) 38 rfl rfl rfl (tg_32 S2) rfl q4 ?_
        refine p_getfr (j := 4) (z := a + 6) 41 rfl rfl rfl Bk2.tag rfl Bk2.f4 ?_
        refine p_iload 43 rfl rfl rfl ?_
        refine p_iald (w := (gv h 79 k)) (z := (fi h k j)) 44 rfl rfl (Bk2.t6) (Bk2.l6) (by omega) (by omega) e6 ?_
        refine p_aload 45 rfl rfl rfl ?_
        refine p_getfr (j := 2) (z := 33) 48 rfl rfl rfl (tg_32 S2) rfl (fi_32_2 S2) ?_
        refine p_iload 49 rfl rfl rfl ?_
        refine p_iald (w := 12) (z := gv h2 33 i) 50 rfl rfl (tg_33 S2) (ln_33 S2) (by omega) (by omega) rfl ?_
        refine p_ic_ne 53 104 rfl rfl rfl (fun c2 => ?_) (fun c2 => ?_)
        · skip
          refine p_iinc (y := j + 1) (ls' := [some (.inr (.inr 32)), some (.inl f), some (.inl i), some (.inl row), some (.inl used), some (.inl (j + 1)), some (.inl (rl (cd h k j)))]) 107 rfl rfl rfl (w32_id ⟨(by omega), (by omega)⟩) rfl ?_
          refine p_goto 3 rfl rfl ?_
          -- leaf 1: loop 3 [some (.inr (.inr 32)), some (.inl f), some (.inl i), some (.inl row), some (.inl used), some (.inl (j + 1)), some (.inl (rl (cd h k j)))] st=[] h=h2 
          exact skip _ (fun y => by omega)
        · skip
          refine p_iload 55 rfl rfl rfl ?_
          refine p_iload 57 rfl rfl rfl ?_
          refine p_iadd (z := used + (rl (cd h k j))) 58 rfl rfl (w32_id ⟨(by omega), (by omega)⟩) ?_
          refine p_const 59 rfl rfl ?_
          refine p_ic_gt 62 104 rfl rfl rfl (fun c3 => ?_) (fun c3 => ?_)
          · skip
            refine p_iinc (y := j + 1) (ls' := [some (.inr (.inr 32)), some (.inl f), some (.inl i), some (.inl row), some (.inl used), some (.inl (j + 1)), some (.inl (rl (cd h k j)))]) 107 rfl rfl rfl (w32_id ⟨(by omega), (by omega)⟩) rfl ?_
            refine p_goto 3 rfl rfl ?_
            -- leaf 2: loop 3 [some (.inr (.inr 32)), some (.inl f), some (.inl i), some (.inl row), some (.inl used), some (.inl (j + 1)), some (.inl (rl (cd h k j)))] st=[] h=h2 
            exact skip _ (fun y => by omega)
          · skip
            refine p_aload 63 rfl rfl rfl ?_
            refine p_getfr (j := 1) (z := 24) 66 rfl rfl rfl (tg_32 S2) rfl (fi_32_1 S2) ?_
            refine p_iload 68 rfl rfl rfl ?_
            refine p_callv (le := [some (.inr (.inr 24)), some (.inl j)]) (as := [.inr (.inr 24), .inl j]) (rest := []) 71 0 0 0 0 rfl rfl (Nat.le_of_ble_eq_true rfl) rfl (Nat.le_of_ble_eq_true rfl) rfl rfl (Nat.le_of_ble_eq_true rfl) rfl (Nat.le_of_ble_eq_true rfl) rfl (Nat.le_refl _) (Nat.le_refl _) rfl rfl (tg_24 S2) ?_
            refine p_aload 1 rfl rfl rfl ?_
            refine p_getfl (j := 3) (z := gv h2 24 3) 4 rfl rfl rfl (tg_24 S2) rfl rfl ?_
            refine p_iload 5 rfl rfl rfl ?_
            refine p_lshr (z := (gv h2 24 3) / 2 ^ (j).toNat) 6 rfl rfl (by omega) (by omega) rfl ?_
            refine p_lconst 7 rfl rfl ?_
            refine p_land (z := ((gv h2 24 3) / 2 ^ (j).toNat) % 2) 8 rfl rfl (mask64 1 rfl (by decide)) ?_
            refine p_lconst 9 rfl rfl ?_
            refine p_lc_eq 10 13 17 rfl rfl rfl rfl rfl (fun c4 => ?_) (fun c4 => ?_)
            · skip
              refine p_const 18 rfl rfl ?_
              refine p_zret rfl rfl (by decide) ?_
              show Wp (D + 9) 0 0 M_X7_extend 71 [some (.inr (.inr 32)), some (.inl f), some (.inl i), some (.inl row), some (.inl used), some (.inl j), some (.inl (rl (cd h k j)))] [.inl 0] h2 _
              refine p_if_eq_t 104 rfl rfl (by decide) ?_
              refine p_iinc (y := j + 1) (ls' := [some (.inr (.inr 32)), some (.inl f), some (.inl i), some (.inl row), some (.inl used), some (.inl (j + 1)), some (.inl (rl (cd h k j)))]) 107 rfl rfl rfl (w32_id ⟨(by omega), (by omega)⟩) rfl ?_
              refine p_goto 3 rfl rfl ?_
              -- leaf 3: loop 3 [some (.inr (.inr 32)), some (.inl f), some (.inl i), some (.inl row), some (.inl used), some (.inl (j + 1)), some (.inl (rl (cd h k j)))] st=[] h=h2 
              have c4' : bit (gv h2 24 3) j = 0 := c4
              exact skip _ (fun y => by omega)
            · skip
              refine p_const 14 rfl rfl ?_
              refine p_goto 18 rfl rfl ?_
              refine p_zret rfl rfl (by decide) ?_
              show Wp (D + 9) 0 0 M_X7_extend 71 [some (.inr (.inr 32)), some (.inl f), some (.inl i), some (.inl row), some (.inl used), some (.inl j), some (.inl (rl (cd h k j)))] [.inl 1] h2 _
              refine p_if_eq_f 74 rfl rfl (by decide) ?_
              have al := app_letters rlet I2' (by omega)
              have oa := or_app rlet I2' (by omega)
              refine p_aload 75 rfl rfl rfl ?_
              refine p_iload 76 rfl rfl rfl ?_
              refine p_iload 77 rfl rfl rfl ?_
              refine p_const 78 rfl rfl ?_
              refine p_iadd (z := i + 1) 79 rfl rfl (w32_id ⟨(by omega), (by omega)⟩) ?_
              refine p_iload 80 rfl rfl rfl ?_
              refine p_const 81 rfl rfl ?_
              refine p_iload 83 rfl rfl rfl ?_
              refine p_imul (z := 5 * (rl (cd h k j))) 84 rfl rfl (w32_id ⟨(by omega), (by omega)⟩) ?_
              refine p_ishl (z := w32 (row * 2 ^ (5 * (rl (cd h k j))).toNat)) 85 rfl rfl (by omega) (by omega) rfl ?_
              refine p_aload 86 rfl rfl rfl ?_
              refine p_getfr (j := 4) (z := a) 89 rfl rfl rfl (tg_32 S2) rfl q4 ?_
              refine p_getfr (j := 2) (z := a + 2) 92 rfl rfl rfl Bk2.tag rfl Bk2.f2 ?_
              refine p_iload 94 rfl rfl rfl ?_
              refine p_iald (w := (gv h 79 k)) (z := (cd h k j)) 95 rfl rfl (Bk2.t2) (Bk2.l2) (by omega) (by omega) e2 ?_
              refine p_ior (z := or32 (w32 (row * 2 ^ (5 * (rl (cd h k j))).toNat)) (cd h k j)) 96 rfl rfl rfl ?_
              refine p_iload 98 rfl rfl rfl ?_
              refine p_iload 100 rfl rfl rfl ?_
              refine p_iadd (z := used + (rl (cd h k j))) 101 rfl rfl (w32_id ⟨(by omega), (by omega)⟩) ?_
              refine p_callv (le := [some (.inr (.inr 32)), some (.inl f), some (.inl (i + 1)), some (.inl (or32 (w32 (row * 2 ^ (5 * (rl (cd h k j))).toNat)) (cd h k j))), some (.inl (used + (rl (cd h k j)))), none]) (as := [.inr (.inr 32), .inl f, .inl (i + 1), .inl (or32 (w32 (row * 2 ^ (5 * (rl (cd h k j))).toNat)) (cd h k j)), .inl (used + (rl (cd h k j)))]) (rest := []) 104 0 0 0 0 rfl rfl (Nat.le_of_ble_eq_true rfl) rfl (Nat.le_of_ble_eq_true rfl) rfl rfl (Nat.le_of_ble_eq_true rfl) rfl (Nat.le_of_ble_eq_true rfl) rfl (Nat.le_refl _) (Nat.le_refl _) rfl rfl (tg_32 S2) ?_
              refine ofr (i + 1) (or32 (w32 (row * 2 ^ (5 * (rl (cd h k j))).toNat)) (cd h k j)) (used + (rl (cd h k j))) u1 h2 _ (by omega) (by omega) (by rw [oa]; exact al.1) (by rw [oa, al.2]; omega) (by omega) (by omega) S2 k2 P2 (fun y5 p5 S5 => ?_)
              show Wp (D + 9) 0 0 M_X7_extend 104 [some (.inr (.inr 32)), some (.inl f), some (.inl i), some (.inl row), some (.inl used), some (.inl j), some (.inl (rl (cd h k j)))] [] y5 _
              refine p_iinc (y := j + 1) (ls' := [some (.inr (.inr 32)), some (.inl f), some (.inl i), some (.inl row), some (.inl used), some (.inl (j + 1)), some (.inl (rl (cd h k j)))]) 107 rfl rfl rfl (w32_id ⟨(by omega), (by omega)⟩) rfl ?_
              refine p_goto 3 rfl rfl ?_
              -- leaf 4: loop 3 [some (.inr (.inr 32)), some (.inl f), some (.inl i), some (.inl row), some (.inl used), some (.inl (j + 1)), some (.inl (rl (cd h k j)))] st=[] h=y5 
              have c4' : ¬ bit (gv h2 24 3) j = 0 := c4
              have b01 := bit_in (gv h2 24 3) j
              obtain ⟨k5, P5⟩ := p5
              rw [oa] at P5
              exact ihc (j + 1) _ _ _ (by omega) (by omega) S5 k5 P5 (by rw [hl, hlu, if_pos ⟨by omega, by omega, by omega⟩, List.foldl_append])
    refine p_const 1 rfl rfl ?_
    refine p_istore (ls' := [some (.inr (.inr 32)), some (.inl f), some (.inl i), some (.inl row), some (.inl used), some (.inl 0), none]) 3 rfl rfl (Nat.le_of_ble_eq_true rfl) rfl ?_
    -- leaf 1: loop 3 [some (.inr (.inr 32)), some (.inl f), some (.inl i), some (.inl row), some (.inl used), some (.inl 0), none] st=[] h=h1 
    exact L (gv h 79 k).toNat 0 u none h1 (by omega) (by omega) S1 k1 P rfl
theorem stpF_congr {cnt sgn hst cnt' sgn' hst' : Int → Int} {pln pln' : Int → Prop} {u : Q4t} {x : Int × Int × Int} (e1 : cnt x.1 = cnt' x.1) (e2 : cnt x.1 < 1000 → sgn x.1 = sgn' x.1) (e3 : hst x.2.1 = hst' x.2.1) (e4 : pln x.2.1 ↔ pln' x.2.1) : stpF cnt sgn hst pln u x = stpF cnt' sgn' hst' pln' u x := by
  by_cases c : cnt x.1 < 1000 ∧ hst x.2.1 ≠ -1 ∧ btr u (cnt x.1 + 1) (sgn x.1 + x.2.2) (hst x.2.1) ∧ pln x.2.1
  · have e2 := e2 c.1
    have c' : cnt' x.1 < 1000 ∧ hst' x.2.1 ≠ -1 ∧ btr u (cnt' x.1 + 1) (sgn' x.1 + x.2.2) (hst' x.2.1) ∧ pln' x.2.1 := by rw [← e1, ← e2, ← e3, ← e4]; exact c
    rw [stpF_pos c, stpF_pos c', e1, e2, e3]
  · have c' : ¬ (cnt' x.1 < 1000 ∧ hst' x.2.1 ≠ -1 ∧ btr u (cnt' x.1 + 1) (sgn' x.1 + x.2.2) (hst' x.2.1) ∧ pln' x.2.1) := fun y => c (by
      have y1 : cnt x.1 < 1000 := by rw [e1]; exact y.1
      rw [e1, e2 y1, e3, e4]; exact y)
    rw [stpF_neg c, stpF_neg c']
theorem fold_congr {F G : Q4t → Int × Int × Int → Q4t} : ∀ (l : List (Int × Int × Int)) (u : Q4t), (∀ x ∈ l, ∀ u, F u x = G u x) → List.foldl F u l = List.foldl G u l
  | [], _, _ => rfl
  | x :: r, u, h => by
    show List.foldl F (F u x) r = List.foldl G (G u x) r
    rw [h x List.mem_cons_self u]
    exact fold_congr r _ (fun y hy => h y (List.mem_cons_of_mem _ hy))
theorem fold_from {cnt sgn hst : Int → Int} {pln : Int → Prop} : ∀ (l : List (Int × Int × Int)) (u : Q4t), List.foldl (stpF cnt sgn hst pln) u l = u ∨ ∃ x ∈ l, cnt x.1 < 1000 ∧ hst x.2.1 ≠ -1 ∧ pln x.2.1 ∧ List.foldl (stpF cnt sgn hst pln) u l = (cnt x.1 + 1, sgn x.1 + x.2.2, hst x.2.1, x.1)
  | [], _ => Or.inl rfl
  | x :: r, u => by
    have ih := fold_from (cnt := cnt) (sgn := sgn) (hst := hst) (pln := pln) r (stpF cnt sgn hst pln u x)
    show List.foldl (stpF cnt sgn hst pln) (stpF cnt sgn hst pln u x) r = u ∨ ∃ y ∈ x :: r, cnt y.1 < 1000 ∧ hst y.2.1 ≠ -1 ∧ pln y.2.1 ∧ List.foldl (stpF cnt sgn hst pln) (stpF cnt sgn hst pln u x) r = _
    rcases ih with e | ⟨y, hy, a, b, c, e⟩
    · by_cases z : cnt x.1 < 1000 ∧ hst x.2.1 ≠ -1 ∧ btr u (cnt x.1 + 1) (sgn x.1 + x.2.2) (hst x.2.1) ∧ pln x.2.1
      · exact Or.inr ⟨x, List.mem_cons_self, z.1, z.2.1, z.2.2.2, by rw [e, stpF_pos z]⟩
      · exact Or.inl (by rw [e, stpF_neg z])
    · exact Or.inr ⟨y, List.mem_cons_of_mem _ hy, a, b, c, e⟩
theorem cxl_mem {hold idf cds ids : Int → Int} {g : Int → Int → Int → List (Int × Int × Int)} {i row used n : Int} (hin : i < n) (hr : (row = 0 ∧ used = 0) ∨ (letters row ∧ rl row = used)) (P : Int × Int × Int → Prop) (hP : ∀ r u, letters r → rl r = u → u ≤ 4 → P (i + 1, r, u)) (hg : ∀ r u, letters r → rl r = u → u ≤ 4 → ∀ x ∈ g (i + 1) r u, P x) :
    ∀ (c : Nat) (j : Int), (∀ x, j ≤ x → x < j + c → letters (cds x)) → ∀ x ∈ cxl hold idf cds ids g i row used c j, P x
  | 0, _, _, x, hx => absurd hx List.not_mem_nil
  | c + 1, j, h, x, hx => by
    have gj := h j (Int.le_refl j) (by omega)
    unfold cxl at hx
    rcases List.mem_append.mp hx with y | y
    · by_cases z : hold j = 1 ∧ idf j = ids i ∧ used + rl (cds j) ≤ 4
      · rw [if_pos z] at y
        have rrow : rl row = used := by rcases hr with ⟨e1, e2⟩ | ⟨_, e⟩; rw [e1, e2]; rfl; exact e
        have al := app_letters (x := row) (y := cds j) (by rcases hr with ⟨e1, _⟩ | ⟨e, _⟩; exact Or.inl e1; exact Or.inr e) gj (by omega)
        rcases List.mem_cons.mp y with w | w
        · rw [w]; exact hP _ _ al.1 (by rw [al.2]; omega) (by omega)
        · exact hg _ _ al.1 (by rw [al.2]; omega) (by omega) x w
      · rw [if_neg z] at y; exact absurd y List.not_mem_nil
    · exact cxl_mem hin hr P hP hg c (j + 1) (fun x x0 x1 => h x (by omega) (by omega)) x y
theorem cx_mem {hold idf cds ids : Int → Int} {m : Nat} {n : Int} (hc : ∀ x : Int, 0 ≤ x → x < (m : Int) → letters (cds x)) : ∀ (f : Nat) (i row used : Int), ((row = 0 ∧ used = 0) ∨ (letters row ∧ rl row = used)) → ∀ x ∈ cx hold idf cds ids m n f i row used, (i < x.1 ∧ x.1 ≤ n) ∧ letters x.2.1 ∧ rl x.2.1 = x.2.2 ∧ x.2.2 ≤ 4
  | 0, _, _, _, _, x, hx => absurd hx List.not_mem_nil
  | f + 1, i, row, used, hr, x, hx => by
    have hx : x ∈ (if i < n then cxl hold idf cds ids (fun a b c => cx hold idf cds ids m n f a b c) i row used m 0 else []) := hx
    by_cases z : i < n
    · rw [if_pos z] at hx
      refine cxl_mem z hr (fun x => (i < x.1 ∧ x.1 ≤ n) ∧ letters x.2.1 ∧ rl x.2.1 = x.2.2 ∧ x.2.2 ≤ 4) (fun r u g e l => ⟨⟨by show i < i + 1; omega, by show i + 1 ≤ n; omega⟩, g, e, l⟩) (fun r u g e l x hx => ?_) m 0 (fun x x0 x1 => hc x x0 (by omega)) x hx
      have := cx_mem hc f (i + 1) r u (Or.inr ⟨g, e⟩) x hx
      exact ⟨⟨by omega, this.1.2⟩, this.2⟩
    · rw [if_neg z] at hx; exact absurd hx List.not_mem_nil
/-- the best ways from the last m names on -/
noncomputable def bst (hst : Int → Int) (pln : Int → Prop) (cnd : Int → List (Int × Int × Int)) (n : Int) : Nat → Int → Q4t
  | 0 => fun _ => (0, 0, 0, 0)
  | m + 1 => fun i => if i = n - (m + 1) then List.foldl (stpF (fun j => (bst hst pln cnd n m j).1) (fun j => (bst hst pln cnd n m j).2.1) hst pln) (1000, 0, 0, 0) (cnd (n - (m + 1))) else bst hst pln cnd n m i
/-- what a best way is -/
def bOk (hst : Int → Int) (pln : Int → Prop) (n : Int) (B : Int → Q4t) (i : Int) : Prop := (B i).1 = 1000 ∨ ((0 ≤ (B i).1 ∧ (B i).1 ≤ n - i) ∧ (0 ≤ (B i).2.1 ∧ (B i).2.1 ≤ 4 * (n - i)) ∧ (i < n → (i < (B i).2.2.2 ∧ (B i).2.2.2 ≤ n) ∧ (B (B i).2.2.2).1 < 1000 ∧ (B i).1 = (B (B i).2.2.2).1 + 1 ∧ ∃ row, letters row ∧ pln row ∧ (B i).2.2.1 = hst row ∧ hst row ≠ -1))
theorem bst_old {hst : Int → Int} {pln : Int → Prop} {cnd : Int → List (Int × Int × Int)} {n : Int} {m : Nat} {i : Int} (h : n - m ≤ i) : bst hst pln cnd n (m + 1) i = bst hst pln cnd n m i := if_neg (by omega)
theorem bst_new {hst : Int → Int} {pln : Int → Prop} {cnd : Int → List (Int × Int × Int)} {n : Int} {m : Nat} {i : Int} (h : i = n - (m + 1)) : bst hst pln cnd n (m + 1) i = List.foldl (stpF (fun j => (bst hst pln cnd n m j).1) (fun j => (bst hst pln cnd n m j).2.1) hst pln) (1000, 0, 0, 0) (cnd i) := by
  rw [h]; exact if_pos rfl
theorem bst_ok {hst : Int → Int} {pln : Int → Prop} {cnd : Int → List (Int × Int × Int)} {n : Int} (hc : ∀ i x, x ∈ cnd i → (i < x.1 ∧ x.1 ≤ n) ∧ letters x.2.1 ∧ rl x.2.1 = x.2.2 ∧ x.2.2 ≤ 4) : ∀ (m : Nat) (i : Int), n - m ≤ i → i ≤ n → bOk hst pln n (bst hst pln cnd n m) i
  | 0, i, h0, h1 => by
    have : i = n := by omega
    subst this
    exact Or.inr ⟨⟨Int.le_refl 0, by show (0 : Int) ≤ i - i; omega⟩, ⟨Int.le_refl 0, by show (0 : Int) ≤ 4 * (i - i); omega⟩, fun y => by omega⟩
  | m + 1, i, h0, h1 => by
    by_cases z : i = n - (m + 1)
    · rcases fold_from (cnt := fun j => (bst hst pln cnd n m j).1) (sgn := fun j => (bst hst pln cnd n m j).2.1) (hst := hst) (pln := pln) (cnd i) (1000, 0, 0, 0) with e | ⟨x, hx, a, b, c, e⟩
      · rw [← bst_new z] at e
        exact Or.inl (by rw [e])
      · rw [← bst_new z] at e
        obtain ⟨⟨x1, x2⟩, x3, x4, x5⟩ := hc i x hx
        have x3' := x3.1
        have ih := bst_ok (hst := hst) (pln := pln) hc m x.1 (by omega) x2
        have a : (bst hst pln cnd n m x.1).1 < 1000 := a
        rcases ih with y | ⟨⟨y1, y2⟩, ⟨y3, y4⟩, _⟩
        · omega
        · unfold bOk
          rw [e]
          refine Or.inr ⟨⟨by show 0 ≤ (bst hst pln cnd n m x.1).1 + 1; omega, by show (bst hst pln cnd n m x.1).1 + 1 ≤ n - i; omega⟩, ⟨by show 0 ≤ (bst hst pln cnd n m x.1).2.1 + x.2.2; omega, by show (bst hst pln cnd n m x.1).2.1 + x.2.2 ≤ 4 * (n - i); omega⟩, fun _ => ⟨⟨x1, x2⟩, ?_, ?_, x.2.1, x3, c, rfl, b⟩⟩
          · show (bst hst pln cnd n (m + 1) x.1).1 < 1000
            rw [bst_old (by omega)]; exact a
          · show (bst hst pln cnd n m x.1).1 + 1 = (bst hst pln cnd n (m + 1) x.1).1 + 1
            rw [bst_old (by omega)]
    · have o : ∀ j, n - m ≤ j → bst hst pln cnd n (m + 1) j = bst hst pln cnd n m j := fun j hj => bst_old hj
      have ih := bst_ok (hst := hst) (pln := pln) hc m i (by omega) h1
      unfold bOk at ih ⊢
      rw [o i (by omega)]
      rcases ih with y | ⟨y1, y2, y3⟩
      · exact Or.inl y
      · refine Or.inr ⟨y1, y2, fun y => ?_⟩
        obtain ⟨z1, z2, z3, z4⟩ := y3 y
        rw [o _ (by omega)]
        exact ⟨z1, z2, z3, z4⟩

