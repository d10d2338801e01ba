/-! BOOKS AND ACTS: small questions, frames, what the class's book and the model's have in common -/
theorem dw {p q : Prop} [Decidable p] [Decidable q] (f : q → p) (z : decide p = false) : decide q = false := decide_eq_false (fun y => of_decide_eq_false z (f y))
/-! what a call may change: the class's readings and sender (xA), all of the model's for the same (mA) -/
def xA (a _i : Int) : Bool := decide (24 ≤ a ∧ a ≤ 37)
def mA (a i : Int) : Bool := decide ((a = 66 ∧ (i = 38 ∨ i = 48 ∨ i = 49 ∨ i = 52 ∨ i = 56 ∨ i = 62)) ∨ (92 ≤ a ∧ a ≤ 93) ∨ (99 ≤ a ∧ a ≤ 106) ∨ (109 ≤ a ∧ a ≤ 113))
/-- what books, acts and flags read is left alone -/
def bkB (a i : Int) : Bool := decide (¬ ((a = 18 ∧ (i = 5 ∨ i = 6)) ∨ (a = 66 ∧ (i = 40 ∨ i = 46)) ∨ (19 ≤ a ∧ a ≤ 23) ∨ (79 ≤ a ∧ a ≤ 84) ∨ (94 ≤ a ∧ a ≤ 98) ∨ 128 ≤ a ∨ (6 ≤ a ∧ a ≤ 10) ∨ (86 ≤ a ∧ a ≤ 91)))
theorem xA_b : ∀ a i, (128 : Int) ≤ a → xA a i = false := fun a i h => decide_eq_false (by omega)
theorem mA_b : ∀ a i, (128 : Int) ≤ a → mA a i = false := fun a i h => decide_eq_false (by omega)
theorem xA_bkB : ∀ a i, bkB a i = false → xA a i = false := fun a i => dw (by omega)
theorem mA_bkB : ∀ a i, bkB a i = false → mA a i = false := fun a i => dw (by omega)
theorem hoA_f {a i : Int} (z : ¬ ((a = 66 ∧ i = 38) ∨ a = 92 ∨ a = 93)) : hoA a i = false := by
  unfold hoA spA
  cases c1 : (a == 66) <;> cases c2 : (a == 92) <;> cases c3 : (a == 93) <;> cases c4 : (i == 38) <;> first | rfl | (exfalso; apply z; simp only [beq_iff_eq] at *; omega)
theorem hoA_mA : ∀ a i, mA a i = false → hoA a i = false := fun a i z => hoA_f (fun y => of_decide_eq_false z (by omega))
theorem spA_mA : ∀ a i, mA a i = false → spA a i = false := fun a i z => hoA_w a i (hoA_mA a i z)
theorem hoA_bkB : ∀ a i, bkB a i = false → hoA a i = false := fun a i z => hoA_mA a i (mA_bkB a i z)
theorem bkB_hi (a i : Int) (z : 128 ≤ a) : bkB a i = false := decide_eq_false (by omega)
theorem flA_of {a : Int} (z : flA a = true) : (6 ≤ a ∧ a ≤ 10) ∨ (86 ≤ a ∧ a ≤ 91) := by
  unfold flA at z
  simp only [Bool.or_eq_true, Bool.and_eq_true, decide_eq_true_eq] at z
  exact z
theorem FI.kp {h h' : PH} (F : FI h) (K : Keep bkB h h') : FI h' := F.keep K (fun a i z => decide_eq_false (by have := flA_of z; omega))
theorem Keep.cp {A : Int → Int → Bool} {h h1 : PH} (k : Keep A h h1) {b : Int} (hb : ∀ i, A b i = true) (a sp dp n : Int) : Keep A h (cpH h1 a sp b dp n) :=
  ⟨fun c j hc => by
    show (if c = b ∧ _ then _ else _) = _
    by_cases z : c = b
    · rw [z, hb] at hc; cases hc
    · rw [if_neg (fun y => z y.1)]; exact k.1 c j hc, k.2.1, k.2.2.1, k.2.2.2⟩
theorem x_isShip {d : Nat} {h : PH} {q : PQ} (_S : Shape h) (s : Int) (K1 : 0 ≤ s ∧ s < 10 → q (some (.inl 1)) h) (K2 : ¬ (0 ≤ s ∧ s < 10) → q (some (.inl 0)) h) : Wp (d + 1) 0 0 M_X11_isShip 0 [some (.inl s)] [] h q := by
  refine p_iload 1 rfl rfl rfl ?_
  refine p_if_lt 4 14 rfl rfl rfl (fun c1 => ?_) (fun c1 => ?_)
  · skip
    refine p_const 15 rfl rfl ?_
    refine p_zret rfl rfl (by decide) ?_
    -- leaf 1: answer [.inl 0] h=h 
    first | exact K1 (by omega) | exact K2 (by omega)
  · skip
    refine p_iload 5 rfl rfl rfl ?_
    refine p_const 7 rfl rfl ?_
    refine p_ic_ge 10 14 rfl rfl rfl (fun c2 => ?_) (fun c2 => ?_)
    · skip
      refine p_const 15 rfl rfl ?_
      refine p_zret rfl rfl (by decide) ?_
      -- leaf 2: answer [.inl 0] h=h 
      first | exact K1 (by omega) | exact K2 (by omega)
    · skip
      refine p_const 11 rfl rfl ?_
      refine p_goto 15 rfl rfl ?_
      refine p_zret rfl rfl (by decide) ?_
      -- leaf 3: answer [.inl 1] h=h 
      first | exact K1 (by omega) | exact K2 (by omega)
theorem x_isMinute {d : Nat} {h : PH} {q : PQ} (_S : Shape h) (s : Int) (K1 : 0 ≤ s ∧ s < 1000 → q (some (.inl 1)) h) (K2 : ¬ (0 ≤ s ∧ s < 1000) → q (some (.inl 0)) h) : Wp (d + 1) 0 0 M_X11_isMinute 0 [some (.inl s)] [] h q := by
  refine p_iload 1 rfl rfl rfl ?_
  refine p_if_lt 4 15 rfl rfl rfl (fun c1 => ?_) (fun c1 => ?_)
  · skip
    refine p_const 16 rfl rfl ?_
    refine p_zret rfl rfl (by decide) ?_
    -- leaf 1: answer [.inl 0] h=h 
    first | exact K1 (by omega) | exact K2 (by omega)
  · skip
    refine p_iload 5 rfl rfl rfl ?_
    refine p_const 8 rfl rfl ?_
    refine p_ic_ge 11 15 rfl rfl rfl (fun c2 => ?_) (fun c2 => ?_)
    · skip
      refine p_const 16 rfl rfl ?_
      refine p_zret rfl rfl (by decide) ?_
      -- leaf 2: answer [.inl 0] h=h 
      first | exact K1 (by omega) | exact K2 (by omega)
    · skip
      refine p_const 12 rfl rfl ?_
      refine p_goto 16 rfl rfl ?_
      refine p_zret rfl rfl (by decide) ?_
      -- leaf 3: answer [.inl 1] h=h 
      first | exact K1 (by omega) | exact K2 (by omega)
theorem m_isIn {d : Nat} {h : PH} {q : PQ} (_S : Shape h) (v a b : Int) (K1 : a ≤ v ∧ v ≤ b → q (some (.inl 1)) h) (K2 : ¬ (a ≤ v ∧ v ≤ b) → q (some (.inl 0)) h) : Wp (d + 1) 0 0 M_X12_isIn 0 [some (.inr (.inl v)), none, some (.inr (.inl a)), none, some (.inr (.inl b)), none] [] h q := by
  refine p_lload 1 rfl rfl rfl ?_
  refine p_lload 2 rfl rfl rfl ?_
  refine p_lc_lt 3 6 17 rfl rfl rfl rfl rfl (fun c1 => ?_) (fun c1 => ?_)
  · skip
    refine p_const 18 rfl rfl ?_
    refine p_zret rfl rfl (by decide) ?_
    -- leaf 1: answer [.inl 0] h=h 
    first | exact K1 (by omega) | exact K2 (by omega)
  · skip
    refine p_lload 7 rfl rfl rfl ?_
    refine p_lload 9 rfl rfl rfl ?_
    refine p_lc_gt 10 13 17 rfl rfl rfl rfl rfl (fun c2 => ?_) (fun c2 => ?_)
    · skip
      refine p_const 18 rfl rfl ?_
      refine p_zret rfl rfl (by decide) ?_
      -- leaf 2: answer [.inl 0] h=h 
      first | exact K1 (by omega) | exact K2 (by omega)
    · skip
      refine p_const 14 rfl rfl ?_
      refine p_goto 18 rfl rfl ?_
      refine p_zret rfl rfl (by decide) ?_
      -- leaf 3: answer [.inl 1] h=h 
      first | exact K1 (by omega) | exact K2 (by omega)
theorem m_isShip {d : Nat} {h : PH} {q : PQ} (S : Shape h) (s : Int) (K1 : 0 ≤ s ∧ s < 10 → q (some (.inl 1)) h) (K2 : ¬ (0 ≤ s ∧ s < 10) → q (some (.inl 0)) h) : Wp (d + 2) 0 0 M_X12_isShip 0 [some (.inl s)] [] h q := by
  refine p_iload 1 rfl rfl rfl ?_
  refine p_i2l 2 rfl rfl ?_
  refine p_lconst 3 rfl rfl ?_
  refine p_lconst 6 rfl rfl ?_
  refine p_calls (le := [some (.inr (.inl s)), none, some (.inr (.inl 0)), none, some (.inr (.inl 9)), none]) (as := [.inr (.inl s), .inr (.inl 0), .inr (.inl 9)]) (rest := []) 9 0 0 0 0 rfl rfl (Nat.le_of_ble_eq_true rfl) rfl (Nat.le_of_ble_eq_true rfl) rfl rfl (Nat.le_of_ble_eq_true rfl) rfl (Nat.le_of_ble_eq_true rfl) rfl (Nat.le_refl _) (Nat.le_refl _) rfl rfl ?_
  refine m_isIn S s 0 9  (fun c1 => ?_) (fun c1 => ?_)
  · show Wp (d + 2) 0 0 M_X12_isShip 9 [some (.inl s)] [.inl 1] h _
    refine p_zret rfl rfl (by decide) ?_
    -- leaf 1: answer [.inl 1] h=h 
    first | exact K1 (by omega) | exact K2 (by omega)
  · show Wp (d + 2) 0 0 M_X12_isShip 9 [some (.inl s)] [.inl 0] h _
    refine p_zret rfl rfl (by decide) ?_
    -- leaf 2: answer [.inl 0] h=h 
    first | exact K1 (by omega) | exact K2 (by omega)
theorem m_isMinute {d : Nat} {h : PH} {q : PQ} (S : Shape h) (s : Int) (K1 : 0 ≤ s ∧ s < 1000 → q (some (.inl 1)) h) (K2 : ¬ (0 ≤ s ∧ s < 1000) → q (some (.inl 0)) h) : Wp (d + 2) 0 0 M_X12_isMinute 0 [some (.inl s)] [] h q := by
  refine p_iload 1 rfl rfl rfl ?_
  refine p_i2l 2 rfl rfl ?_
  refine p_lconst 3 rfl rfl ?_
  refine p_lconst 6 rfl rfl ?_
  refine p_calls (le := [some (.inr (.inl s)), none, some (.inr (.inl 0)), none, some (.inr (.inl 999)), none]) (as := [.inr (.inl s), .inr (.inl 0), .inr (.inl 999)]) (rest := []) 9 0 0 0 0 rfl rfl (Nat.le_of_ble_eq_true rfl) rfl (Nat.le_of_ble_eq_true rfl) rfl rfl (Nat.le_of_ble_eq_true rfl) rfl (Nat.le_of_ble_eq_true rfl) rfl (Nat.le_refl _) (Nat.le_refl _) rfl rfl ?_
  refine m_isIn S s 0 999  (fun c1 => ?_) (fun c1 => ?_)
  · show Wp (d + 2) 0 0 M_X12_isMinute 9 [some (.inl s)] [.inl 1] h _
    refine p_zret rfl rfl (by decide) ?_
    -- leaf 1: answer [.inl 1] h=h 
    first | exact K1 (by omega) | exact K2 (by omega)
  · show Wp (d + 2) 0 0 M_X12_isMinute 9 [some (.inl s)] [.inl 0] h _
    refine p_zret rfl rfl (by decide) ?_
    -- leaf 2: answer [.inl 0] h=h 
    first | exact K1 (by omega) | exact K2 (by omega)
/-- the class's book at a, n senses, a program of pl steps -/
def BkS (h : PH) (a n pl : Int) : Prop := (128 ≤ a ∧ a + 6 < nx h) ∧ tg h a = 1 ∧ gv h a 0 = n ∧ (gv h a 1 = a + 1 ∧ gv h a 2 = a + 2 ∧ gv h a 3 = a + 5 ∧ gv h a 4 = a + 6 ∧ gv h a 5 = a + 3 ∧ gv h a 6 = a + 4) ∧
  (tg h (a + 1) = 100 ∧ tg h (a + 2) = 100 ∧ tg h (a + 3) = 100 ∧ tg h (a + 4) = 100 ∧ tg h (a + 5) = 100 ∧ tg h (a + 6) = 100) ∧ ln h (a + 1) = n ∧ ln h (a + 2) = n ∧ ln h (a + 3) = n ∧ ln h (a + 4) = pl ∧ ln h (a + 5) = n ∧ ln h (a + 6) = n
section BKS
variable {h : PH} {a n pl : Int}
theorem BkS.ge (B : BkS h a n pl) : 128 ≤ a := B.1.1
theorem BkS.tag (B : BkS h a n pl) : tg h a = ((1 : Nat) : Int) := B.2.1
theorem BkS.f0 (B : BkS h a n pl) : gv h a 0 = n := B.2.2.1
theorem BkS.f1 (B : BkS h a n pl) : gv h a 1 = a + 1 := B.2.2.2.1.1
theorem BkS.f2 (B : BkS h a n pl) : gv h a 2 = a + 2 := B.2.2.2.1.2.1
theorem BkS.f3 (B : BkS h a n pl) : gv h a 3 = a + 5 := B.2.2.2.1.2.2.1
theorem BkS.f4 (B : BkS h a n pl) : gv h a 4 = a + 6 := B.2.2.2.1.2.2.2.1
theorem BkS.f5 (B : BkS h a n pl) : gv h a 5 = a + 3 := B.2.2.2.1.2.2.2.2.1
theorem BkS.f6 (B : BkS h a n pl) : gv h a 6 = a + 4 := B.2.2.2.1.2.2.2.2.2
theorem BkS.t1 (B : BkS h a n pl) : tg h (a + 1) = 100 := B.2.2.2.2.1.1
theorem BkS.t2 (B : BkS h a n pl) : tg h (a + 2) = 100 := B.2.2.2.2.1.2.1
theorem BkS.t3 (B : BkS h a n pl) : tg h (a + 3) = 100 := B.2.2.2.2.1.2.2.1
theorem BkS.t4 (B : BkS h a n pl) : tg h (a + 4) = 100 := B.2.2.2.2.1.2.2.2.1
theorem BkS.t5 (B : BkS h a n pl) : tg h (a + 5) = 100 := B.2.2.2.2.1.2.2.2.2.1
theorem BkS.t6 (B : BkS h a n pl) : tg h (a + 6) = 100 := B.2.2.2.2.1.2.2.2.2.2
theorem BkS.l1 (B : BkS h a n pl) : ln h (a + 1) = n := B.2.2.2.2.2.1
theorem BkS.l2 (B : BkS h a n pl) : ln h (a + 2) = n := B.2.2.2.2.2.2.1
theorem BkS.l3 (B : BkS h a n pl) : ln h (a + 3) = n := B.2.2.2.2.2.2.2.1
theorem BkS.l4 (B : BkS h a n pl) : ln h (a + 4) = pl := B.2.2.2.2.2.2.2.2.1
theorem BkS.l5 (B : BkS h a n pl) : ln h (a + 5) = n := B.2.2.2.2.2.2.2.2.2.1
theorem BkS.l6 (B : BkS h a n pl) : ln h (a + 6) = n := B.2.2.2.2.2.2.2.2.2.2
theorem BkS.kp (B : BkS h a n pl) {A : Int → Int → Bool} {h' : PH} (k : Keep A h h') (hA : ∀ a i, (128 : Int) ≤ a → A a i = false) : BkS h' a n pl := by
  obtain ⟨b1, b2, b3, b4, b5, b6⟩ := B
  unfold BkS
  have e : ∀ i, gv h' a i = gv h a i := fun i => k.1 a i (hA a i b1.1)
  simp only [e, k.2.1, k.2.2.1, k.2.2.2]
  exact ⟨b1, b2, b3, b4, b5, b6⟩
end BKS
/-! the model's book k -/
def nm (h : PH) (k i : Int) : Int := gv h 80 (40 * k + i)
def cd (h : PH) (k i : Int) : Int := gv h 81 (40 * k + i)
def tf (h : PH) (k i : Int) : Int := gv h 82 (40 * k + i)
def te (h : PH) (k i : Int) : Int := gv h 83 (40 * k + i)
def cc (h : PH) (k p : Int) : Int := gv h 84 (700 * k + p)
/-- d is the first of the n places of f with the value v, or -1 -/
def isF (f : Int → Int) (n v d : Int) : Prop := (0 ≤ d ∧ d < n ∧ f d = v ∧ ∀ j, 0 ≤ j → j < d → f j ≠ v) ∨ (d = -1 ∧ ∀ j, 0 ≤ j → j < n → f j ≠ v)
theorem isF_same {f : Int → Int} {n v d e : Int} (a : isF f n v d) (b : isF f n v e) : d = e := by
  rcases a with ⟨a1, a2, a3, a4⟩ | ⟨a1, a2⟩ <;> rcases b with ⟨b1, b2, b3, b4⟩ | ⟨b1, b2⟩
  · apply Decidable.byContradiction; intro z
    rcases (show d < e ∨ e < d by omega) with y | y
    · exact b4 d a1 y a3
    · exact a4 e b1 y b3
  · exact absurd a3 (b2 d a1 a2)
  · exact absurd b3 (a2 e b1 b2)
  · omega
/-- the class's step for the model's step c -/
def tcf (c : Int) : Int := if 1000 ≤ c then c - 1000 else if c = 17 then -6 else if c = 16 then -7 else if 11 ≤ c then -c else if c ≤ 3 then -(c + 7) else 2 - c
/-- what kinds of figures wait (true: holds or not) after a step -/
def tyc (c : Int) (ts : List Bool) : Option (List Bool) :=
  if (1000 ≤ c ∧ c ≤ 10999) ∨ (4 ≤ c ∧ c ≤ 7) then some (false :: ts) else if c = 17 then some (true :: ts) else
  match ts with
  | true :: r => if c = 16 then some (true :: r) else match r with
    | true :: r' => if c = 14 ∨ c = 15 then some (true :: r') else none
    | _ => none
  | false :: r => match r with
    | false :: r' => if 1 ≤ c ∧ c ≤ 3 then some (false :: r') else if 11 ≤ c ∧ c ≤ 13 then some (true :: r') else none
    | _ => none
  | [] => none
def tyr (f : Int → Int) : Nat → Int → List Bool → Option (List Bool)
  | 0, _, ts => some ts
  | n + 1, p, ts => match tyc (f p) ts with
    | some ts' => if ts'.length ≤ 63 then tyr f n (p + 1) ts' else none
    | none => none
/-- sense i of the model's book k and of the class's book a -/
def BkI (h : PH) (a k pl i : Int) : Prop := (gv h (a + 1) i = nm h k i ∧ 1 ≤ nm h k i ∧ nm h k i < 1073741824) ∧ (gv h (a + 2) i = cd h k i ∧ letters (cd h k i)) ∧ gv h (a + 5) i = rl (cd h k i) ∧ isF (nm h k) (gv h 79 k) (nm h k i) (gv h (a + 6) i) ∧
  gv h (a + 3) i = te h k i ∧ (tf h k i = if i = 0 then 0 else te h k (i - 1)) ∧ (0 ≤ tf h k i ∧ tf h k i ≤ te h k i ∧ te h k i ≤ pl) ∧ (tf h k i < te h k i → tyr (cc h k) (te h k i - tf h k i).toNat (tf h k i) [] = some [true]) ∧
  ∀ p, tf h k i ≤ p → p < te h k i → gv h (a + 4) p = tcf (cc h k p)
def BkR (h : PH) (a k : Int) : Prop := 0 ≤ gv h 79 k ∧ gv h 79 k ≤ 40 ∧ ∃ pl, 0 ≤ pl ∧ pl ≤ 700 ∧ BkS h a (gv h 79 k) pl ∧ ∀ i, 0 ≤ i → i < gv h 79 k → BkI h a k pl i
theorem BkR.of {h h' : PH} {a k : Int} (R : BkR h a k) (eb : ∀ a i, (79 ≤ a ∧ a ≤ 84) ∨ 128 ≤ a → gv h' a i = gv h a i) (e9 : nx h' = nx h ∧ (∀ a, tg h' a = tg h a) ∧ ∀ a, ln h' a = ln h a) : BkR h' a k := by
  obtain ⟨r1, r2, pl, r3, r4, B, r5⟩ := R
  have g := B.ge
  have e79 : ∀ i, gv h' 79 i = gv h 79 i := fun i => eb 79 i (by omega)
  have e1 : nm h' k = nm h k := funext fun i => eb 80 _ (by omega)
  have e2 : cd h' k = cd h k := funext fun i => eb 81 _ (by omega)
  have e3 : tf h' k = tf h k := funext fun i => eb 82 _ (by omega)
  have e4 : te h' k = te h k := funext fun i => eb 83 _ (by omega)
  have e5 : cc h' k = cc h k := funext fun i => eb 84 _ (by omega)
  have eu : ∀ b i, 128 ≤ b → gv h' b i = gv h b i := fun b i hb => eb b i (by omega)
  have B' : BkS h' a (gv h 79 k) pl := by
    obtain ⟨b1, b2, b3, b4, b5, b6⟩ := B
    unfold BkS
    have e : ∀ i, gv h' a i = gv h a i := fun i => eu a i b1.1
    simp only [e, e9.1, e9.2.1, e9.2.2]
    exact ⟨b1, b2, b3, b4, b5, b6⟩
  unfold BkR
  rw [e79]
  refine ⟨r1, r2, pl, r3, r4, B', fun i i0 i1 => ?_⟩
  unfold BkI
  rw [e1, e2, e3, e4, e5, e79]
  obtain ⟨⟨i1, i1'⟩, ⟨i2, i2'⟩, i3, i4, i5, i6, i7, i8, i9⟩ := r5 i i0 i1
  exact ⟨⟨(eu _ _ (by omega)).trans i1, i1'⟩, ⟨(eu _ _ (by omega)).trans i2, i2'⟩, (eu _ _ (by omega)).trans i3, by rw [eu _ _ (by omega)]; exact i4, (eu _ _ (by omega)).trans i5, i6, i7, i8, fun p p0 p1 => (eu _ _ (by omega)).trans (i9 p p0 p1)⟩
theorem BkR.kp {h h' : PH} {a k : Int} (R : BkR h a k) (K : Keep bkB h h') : BkR h' a k := by
  exact R.of (fun a i z => K.1 a i (decide_eq_false (by omega))) K.2
/-! ACTS -/
def AR (h : PH) (k : Int) : Prop := gv h 98 k = gv h 23 k ∧ 0 ≤ gv h 23 k ∧ gv h 23 k ≤ 200 ∧ ((gv h 94 k = 1 ∧ gv h 20 k = 0 ∧ BkR h (gv h 19 k) k) ∨
  (gv h 94 k = 2 ∧ gv h 19 k = 0 ∧ isHo (gv h 20 k) ∧ gv h 97 k = gv h 20 k ∧ gv h 95 k = gv h 21 k ∧ gv h 96 k = gv h 22 k ∧ (0 ≤ gv h 21 k ∧ gv h 21 k < 10) ∧ 0 ≤ gv h 22 k ∧ gv h 22 k < 1000) ∨ (gv h 94 k = 3 ∧ gv h 19 k = 0 ∧ gv h 20 k = 0))
def AI (h : PH) : Prop := (0 ≤ gv h 18 5 ∧ gv h 18 5 ≤ 200 ∧ gv h 66 40 = gv h 18 5 ∧ gv h 66 46 = gv h 18 6 ∧ -1 ≤ gv h 18 6 ∧ gv h 18 6 ≤ gv h 18 5 ∧ gv h 19 0 = 0) ∧ (∀ k, 1 ≤ k → k ≤ gv h 18 5 → AR h k) ∧
  ∀ k, gv h 18 5 < k → k ≤ 200 → gv h 19 k = 0 ∧ gv h 20 k = 0 ∧ gv h 23 k = 0
theorem AR.kp {h h' : PH} {k : Int} (R : AR h k) (K : Keep bkB h h') : AR h' k := by
  obtain ⟨r1, r2, r3, r4⟩ := R
  unfold AR
  rw [K.1 98 k rfl, K.1 23 k rfl, K.1 94 k rfl, K.1 20 k rfl, K.1 19 k rfl, K.1 97 k rfl, K.1 95 k rfl, K.1 96 k rfl, K.1 21 k rfl, K.1 22 k rfl]
  refine ⟨r1, r2, r3, ?_⟩
  rcases r4 with ⟨a, b, c⟩ | r | r
  · exact Or.inl ⟨a, b, c.kp K⟩
  · exact Or.inr (Or.inl r)
  · exact Or.inr (Or.inr r)
theorem AI.kp {h h' : PH} (R : AI h) (K : Keep bkB h h') : AI h' := by
  obtain ⟨a, b, c⟩ := R
  unfold AI
  rw [K.1 18 5 rfl, K.1 18 6 rfl, K.1 66 40 rfl, K.1 66 46 rfl, K.1 19 0 rfl]
  exact ⟨a, fun k k0 k1 => (b k k0 k1).kp K, fun k k0 k1 => by rw [K.1 19 k rfl, K.1 20 k rfl, K.1 23 k rfl]; exact c k k0 k1⟩
abbrev Kn (h : PH) (k n : Int) : Prop := 1 ≤ k ∧ k ≤ n ∧ (gv h 98 k = 0 ∨ n < gv h 98 k)
theorem x_isKnown {d : Nat} {h : PH} {q : PQ} (S : Shape h) (k n : Int) (A : gv h 18 5 ≤ 200) (K1 : (1 ≤ k ∧ k ≤ n ∧ k ≤ gv h 18 5 ∧ (gv h 23 k = 0 ∨ n < gv h 23 k)) → q (some (.inl 1)) h) (K2 : ¬ (1 ≤ k ∧ k ≤ n ∧ k ≤ gv h 18 5 ∧ (gv h 23 k = 0 ∨ n < gv h 23 k)) → q (some (.inl 0)) h) :
    Wp (d + 1) 0 0 M_X0_isKnown 0 [some (.inr (.inr 18)), some (.inl k), some (.inl n)] [] h q := by
  refine p_iload 1 rfl rfl rfl ?_
  refine p_const 2 rfl rfl ?_
  refine p_ic_lt 5 41 rfl rfl rfl (fun c1 => ?_) (fun c1 => ?_)
  · skip
    refine p_const 42 rfl rfl ?_
    refine p_zret rfl rfl (by decide) ?_
    -- leaf 1: answer [.inl 0] h=h 
    first | exact K1 (by omega) | exact K2 (by omega)
  · skip
    refine p_iload 6 rfl rfl rfl ?_
    refine p_iload 7 rfl rfl rfl ?_
    refine p_ic_gt 10 41 rfl rfl rfl (fun c2 => ?_) (fun c2 => ?_)
    · skip
      refine p_const 42 rfl rfl ?_
      refine p_zret rfl rfl (by decide) ?_
      -- leaf 2: answer [.inl 0] h=h 
      first | exact K1 (by omega) | exact K2 (by omega)
    · skip
      refine p_iload 11 rfl rfl rfl ?_
      refine p_aload 12 rfl rfl rfl ?_
      refine p_getfi (j := 5) (z := gv h 18 5) 15 rfl rfl rfl (tg_18 S) rfl rfl ?_
      refine p_ic_gt 18 41 rfl rfl rfl (fun c3 => ?_) (fun c3 => ?_)
      · skip
        refine p_const 42 rfl rfl ?_
        refine p_zret rfl rfl (by decide) ?_
        -- leaf 3: answer [.inl 0] h=h 
        first | exact K1 (by omega) | exact K2 (by omega)
      · skip
        refine p_aload 19 rfl rfl rfl ?_
        refine p_getfr (j := 4) (z := 23) 22 rfl rfl rfl (tg_18 S) rfl (fi_18_4 S) ?_
        refine p_iload 23 rfl rfl rfl ?_
        refine p_iald (w := 201) (z := gv h 23 k) 24 rfl rfl (tg_23 S) (ln_23 S) (by omega) (by omega) rfl ?_
        refine p_if_eq 27 37 rfl rfl rfl (fun c4 => ?_) (fun c4 => ?_)
        · skip
          refine p_const 38 rfl rfl ?_
          refine p_goto 42 rfl rfl ?_
          refine p_zret rfl rfl (by decide) ?_
          -- leaf 4: answer [.inl 1] h=h 
          first | exact K1 (by omega) | exact K2 (by omega)
        · skip
          refine p_aload 28 rfl rfl rfl ?_
          refine p_getfr (j := 4) (z := 23) 31 rfl rfl rfl (tg_18 S) rfl (fi_18_4 S) ?_
          refine p_iload 32 rfl rfl rfl ?_
          refine p_iald (w := 201) (z := gv h 23 k) 33 rfl rfl (tg_23 S) (ln_23 S) (by omega) (by omega) rfl ?_
          refine p_iload 34 rfl rfl rfl ?_
          refine p_ic_le 37 41 rfl rfl rfl (fun c5 => ?_) (fun c5 => ?_)
          · skip
            refine p_const 42 rfl rfl ?_
            refine p_zret rfl rfl (by decide) ?_
            -- leaf 5: answer [.inl 0] h=h 
            first | exact K1 (by omega) | exact K2 (by omega)
          · skip
            refine p_const 38 rfl rfl ?_
            refine p_goto 42 rfl rfl ?_
            refine p_zret rfl rfl (by decide) ?_
            -- leaf 6: answer [.inl 1] h=h 
            first | exact K1 (by omega) | exact K2 (by omega)
theorem x_isFlownKnown {d : Nat} {h : PH} {q : PQ} (S : Shape h) (k n : Int) (A : gv h 18 5 ≤ 200) (K1 : ((1 ≤ k ∧ k ≤ n ∧ k ≤ gv h 18 5 ∧ (gv h 23 k = 0 ∨ n < gv h 23 k)) ∧ gv h 20 k ≠ 0) → q (some (.inl 1)) h) (K2 : ¬ ((1 ≤ k ∧ k ≤ n ∧ k ≤ gv h 18 5 ∧ (gv h 23 k = 0 ∨ n < gv h 23 k)) ∧ gv h 20 k ≠ 0) → q (some (.inl 0)) h) :
    Wp (d + 2) 0 0 M_X0_isFlownKnown 0 [some (.inr (.inr 18)), some (.inl k), some (.inl n)] [] h q := by
  refine p_aload 1 rfl rfl rfl ?_
  refine p_iload 2 rfl rfl rfl ?_
  refine p_iload 3 rfl rfl rfl ?_
  refine p_callv (le := [some (.inr (.inr 18)), some (.inl k), some (.inl n)]) (as := [.inr (.inr 18), .inl k, .inl n]) (rest := []) 6 0 0 0 0 rfl rfl (Nat.le_of_ble_eq_true rfl) rfl (Nat.le_of_ble_eq_true rfl) rfl rfl (Nat.le_of_ble_eq_true rfl) rfl (Nat.le_of_ble_eq_true rfl) rfl (Nat.le_refl _) (Nat.le_refl _) rfl rfl (tg_18 S) ?_
  refine x_isKnown S k n (by omega) (fun c1 => ?_) (fun c1 => ?_)
  · show Wp (d + 2) 0 0 M_X0_isFlownKnown 6 [some (.inr (.inr 18)), some (.inl k), some (.inl n)] [.inl 1] h _
    refine p_if_eq_f 9 rfl rfl (by decide) ?_
    refine p_aload 10 rfl rfl rfl ?_
    refine p_getfr (j := 1) (z := 20) 13 rfl rfl rfl (tg_18 S) rfl (fi_18_1 S) ?_
    refine p_iload 14 rfl rfl rfl ?_
    refine p_iald (w := 201) (z := gv h 20 k) 15 rfl rfl (tg_20 S) (ln_20 S) (by omega) (by omega) rfl ?_
    refine p_if_eq 18 22 rfl rfl rfl (fun c2 => ?_) (fun c2 => ?_)
    · skip
      refine p_const 23 rfl rfl ?_
      refine p_zret rfl rfl (by decide) ?_
      -- leaf 1: answer [.inl 0] h=h 
      first | exact K1 (by omega) | exact K2 (by omega)
    · skip
      refine p_const 19 rfl rfl ?_
      refine p_goto 23 rfl rfl ?_
      refine p_zret rfl rfl (by decide) ?_
      -- leaf 2: answer [.inl 1] h=h 
      first | exact K1 (by omega) | exact K2 (by omega)
  · show Wp (d + 2) 0 0 M_X0_isFlownKnown 6 [some (.inr (.inr 18)), some (.inl k), some (.inl n)] [.inl 0] h _
    refine p_if_eq_t 22 rfl rfl (by decide) ?_
    refine p_const 23 rfl rfl ?_
    refine p_zret rfl rfl (by decide) ?_
    -- leaf 3: answer [.inl 0] h=h 
    first | exact K1 (by omega) | exact K2 (by omega)
theorem m_isKnown {d : Nat} {h : PH} {q : PQ} (S : Shape h) (k n : Int) (k0 : 0 ≤ k) (k1 : k ≤ 200) (K1 : (k ≤ n ∧ (gv h 98 k = 0 ∨ n < gv h 98 k)) → q (some (.inl 1)) h) (K2 : ¬ (k ≤ n ∧ (gv h 98 k = 0 ∨ n < gv h 98 k)) → q (some (.inl 0)) h) :
    Wp (d + 1) 0 0 M_X12_isKnown 0 [some (.inr (.inr 66)), some (.inl k), some (.inl n)] [] h q := by
  refine p_iload 1 rfl rfl rfl ?_
  refine p_iload 2 rfl rfl rfl ?_
  refine p_ic_gt 5 28 rfl rfl rfl (fun c1 => ?_) (fun c1 => ?_)
  · skip
    refine p_const 29 rfl rfl ?_
    refine p_zret rfl rfl (by decide) ?_
    -- leaf 1: answer [.inl 0] h=h 
    first | exact K1 (by omega) | exact K2 (by omega)
  · skip
    refine p_aload 6 rfl rfl rfl ?_
    refine p_getfr (j := 45) (z := 98) 9 rfl rfl rfl (tg_66 S) rfl (fi_66_45 S) ?_
    refine p_iload 10 rfl rfl rfl ?_
    refine p_iald (w := 201) (z := gv h 98 k) 11 rfl rfl (tg_98 S) (ln_98 S) (by omega) (by omega) rfl ?_
    refine p_if_eq 14 24 rfl rfl rfl (fun c2 => ?_) (fun c2 => ?_)
    · skip
      refine p_const 25 rfl rfl ?_
      refine p_goto 29 rfl rfl ?_
      refine p_zret rfl rfl (by decide) ?_
      -- leaf 2: answer [.inl 1] h=h 
      first | exact K1 (by omega) | exact K2 (by omega)
    · skip
      refine p_aload 15 rfl rfl rfl ?_
      refine p_getfr (j := 45) (z := 98) 18 rfl rfl rfl (tg_66 S) rfl (fi_66_45 S) ?_
      refine p_iload 19 rfl rfl rfl ?_
      refine p_iald (w := 201) (z := gv h 98 k) 20 rfl rfl (tg_98 S) (ln_98 S) (by omega) (by omega) rfl ?_
      refine p_iload 21 rfl rfl rfl ?_
      refine p_ic_le 24 28 rfl rfl rfl (fun c3 => ?_) (fun c3 => ?_)
      · skip
        refine p_const 29 rfl rfl ?_
        refine p_zret rfl rfl (by decide) ?_
        -- leaf 3: answer [.inl 0] h=h 
        first | exact K1 (by omega) | exact K2 (by omega)
      · skip
        refine p_const 25 rfl rfl ?_
        refine p_goto 29 rfl rfl ?_
        refine p_zret rfl rfl (by decide) ?_
        -- leaf 4: answer [.inl 1] h=h 
        first | exact K1 (by omega) | exact K2 (by omega)
/-- the act at which all is told -/
abbrev nw (h : PH) : Int := if gv h 18 6 = -1 then gv h 18 5 else gv h 18 6
theorem nw_in {h : PH} (A : AI h) : 0 ≤ nw h ∧ nw h ≤ gv h 18 5 := by
  obtain ⟨⟨a1, a2, a3, a4, a5, a6, a7⟩, _, _⟩ := A
  unfold nw; split <;> omega
theorem x_knownAt {d : Nat} {h : PH} {q : PQ} (S : Shape h) (K : q (some (.inl (nw h))) h) : Wp (d + 1) 0 0 M_X0_knownAt 0 [some (.inr (.inr 18))] [] h q := by
  unfold nw at K
  refine p_aload 1 rfl rfl rfl ?_
  refine p_getfi (j := 6) (z := gv h 18 6) 4 rfl rfl rfl (tg_18 S) rfl rfl ?_
  refine p_const 5 rfl rfl ?_
  refine p_ic_ne 8 15 rfl rfl rfl (fun c1 => ?_) (fun c1 => ?_)
  · skip
    refine p_aload 16 rfl rfl rfl ?_
    refine p_getfi (j := 6) (z := gv h 18 6) 19 rfl rfl rfl (tg_18 S) rfl rfl ?_
    refine p_iret rfl rfl ?_
    -- leaf 1: answer [.inl (gv h 18 6)] h=h 
    (repeat' split at K) <;> first | (exfalso; omega) | exact K
  · skip
    refine p_aload 9 rfl rfl rfl ?_
    refine p_getfi (j := 5) (z := gv h 18 5) 12 rfl rfl rfl (tg_18 S) rfl rfl ?_
    refine p_goto 19 rfl rfl ?_
    refine p_iret rfl rfl ?_
    -- leaf 2: answer [.inl (gv h 18 5)] h=h 
    (repeat' split at K) <;> first | (exfalso; omega) | exact K
theorem m_now {d : Nat} {h : PH} {q : PQ} (S : Shape h) (A : AI h) (K : q (some (.inl (nw h))) h) : Wp (d + 1) 0 0 M_X12_now 0 [some (.inr (.inr 66))] [] h q := by
  obtain ⟨⟨a1, a2, a3, a4, a5, a6, a7⟩, _, _⟩ := A
  unfold nw at K
  rw [← a4, ← a3] at K
  refine p_aload 1 rfl rfl rfl ?_
  refine p_getfi (j := 46) (z := gv h 66 46) 4 rfl rfl rfl (tg_66 S) rfl rfl ?_
  refine p_const 5 rfl rfl ?_
  refine p_ic_ne 8 15 rfl rfl rfl (fun c1 => ?_) (fun c1 => ?_)
  · skip
    refine p_aload 16 rfl rfl rfl ?_
    refine p_getfi (j := 46) (z := gv h 66 46) 19 rfl rfl rfl (tg_66 S) rfl rfl ?_
    refine p_iret rfl rfl ?_
    -- leaf 1: answer [.inl (gv h 66 46)] h=h 
    (repeat' split at K) <;> first | (exfalso; omega) | exact K
  · skip
    refine p_aload 9 rfl rfl rfl ?_
    refine p_getfi (j := 40) (z := gv h 66 40) 12 rfl rfl rfl (tg_66 S) rfl rfl ?_
    refine p_goto 19 rfl rfl ?_
    refine p_iret rfl rfl ?_
    -- leaf 2: answer [.inl (gv h 66 40)] h=h 
    (repeat' split at K) <;> first | (exfalso; omega) | exact K
/-- the book as known at act n, looked for from act k down -/
def bkAt (h : PH) (n : Int) : Nat → Int
  | 0 => 0
  | k + 1 => if gv h 94 ((k : Int) + 1) = 1 ∧ (gv h 98 ((k : Int) + 1) = 0 ∨ n < gv h 98 ((k : Int) + 1)) then (k : Int) + 1 else bkAt h n k
theorem bkAt_in (h : PH) (n : Int) : ∀ k : Nat, 0 ≤ bkAt h n k ∧ bkAt h n k ≤ k ∧ (bkAt h n k ≠ 0 → gv h 94 (bkAt h n k) = 1)
  | 0 => ⟨Int.le_refl 0, Int.le_refl 0, fun z => absurd rfl z⟩
  | k + 1 => by
    have z := bkAt_in h n k
    unfold bkAt
    split
    · next c => exact ⟨by omega, by omega, fun _ => c.1⟩
    · exact ⟨z.1, by omega, z.2.2⟩
theorem bkAt_congr {h h' : PH} (K : Keep bkB h h') (n : Int) : ∀ k : Nat, bkAt h' n k = bkAt h n k
  | 0 => rfl
  | k + 1 => by unfold bkAt; rw [K.1 94 _ rfl, K.1 98 _ rfl, bkAt_congr K n k]
theorem AI.book {h : PH} (A : AI h) {n : Int} (n1 : n ≤ gv h 18 5) (n0 : 0 ≤ n) : (bkAt h n n.toNat = 0 ∧ gv h 19 (bkAt h n n.toNat) = 0) ∨ (1 ≤ bkAt h n n.toNat ∧ bkAt h n n.toNat ≤ gv h 18 5 ∧ BkR h (gv h 19 (bkAt h n n.toNat)) (bkAt h n n.toNat)) := by
  obtain ⟨b1, b2, b3⟩ := bkAt_in h n n.toNat
  by_cases z : bkAt h n n.toNat = 0
  · exact Or.inl ⟨z, by rw [z]; exact A.1.2.2.2.2.2.2⟩
  · refine Or.inr ⟨by omega, by omega, ?_⟩
    have := (A.2.1 (bkAt h n n.toNat) (by omega) (by omega)).2.2.2
    have w := b3 z
    rcases this with r | r | r
    · exact r.2.2
    · omega
    · omega
theorem x_bookAt {d : Nat} {h : PH} {q : PQ} (S : Shape h) (n : Int) (A : AI h) (n0 : 0 ≤ n) (n1 : n ≤ gv h 18 5) (K : q (some (.inr (.inr (gv h 19 (bkAt h n n.toNat))))) h) :
    Wp (d + 2) 0 0 M_X0_bookAt 0 [some (.inr (.inr 18)), some (.inl n), none] [] h q := by
  have A' := A
  obtain ⟨⟨a1, a2, a3, a4, a5, a6, a7⟩, a8, a9⟩ := A
  have L : ∀ (c : Nat) (k : Int), k = c → k ≤ n → gv h 19 (bkAt h n c) = gv h 19 (bkAt h n n.toNat) → Wp (d + 2) 0 0 M_X0_bookAt 9 [some (.inr (.inr 18)), some (.inl n), some (.inl k)] [] h q := by
    intro c
    induction c with
    | zero =>
      intro k hk kn e
      refine p_iload 10 rfl rfl rfl ?_
      refine p_const 11 rfl rfl ?_
      refine p_ic_lt_t 45 rfl rfl (by omega) ?_
      refine p_null 46 rfl rfl ?_
      refine p_aret rfl rfl ?_
      -- leaf 1: answer [.inr (.inr 0)] h=h 
      rw [← e, show bkAt h n 0 = 0 from rfl, a7] at K; exact K
    | succ c ih =>
      intro k hk kn e
      have r := a8 k (by omega) (by omega)
      obtain ⟨r1, r2, r3, r4⟩ := r
      have kc : ((c : Int) + 1) = k := by omega
      have r5 : gv h 94 k = 1 ↔ gv h 19 k ≠ 0 := by
        rcases r4 with ⟨x, y, z⟩ | x | x
        · exact ⟨fun _ w => by obtain ⟨_, _, _, _, _, w2, _⟩ := z; have := w2.ge; omega, fun _ => x⟩
        · omega
        · omega
      have nx : ¬ (gv h 94 k = 1 ∧ (gv h 98 k = 0 ∨ n < gv h 98 k)) → gv h 19 (bkAt h n c) = gv h 19 (bkAt h n n.toNat) := fun z => by
        rw [← e]; unfold bkAt; rw [kc, if_neg z]; cases c <;> rfl
      refine p_iload 10 rfl rfl rfl ?_
      refine p_const 11 rfl rfl ?_
      refine p_ic_lt_f 14 rfl rfl (by omega) ?_
      refine p_aload 15 rfl rfl rfl ?_
      refine p_iload 16 rfl rfl rfl ?_
      refine p_iload 17 rfl rfl rfl ?_
      refine p_callv (le := [some (.inr (.inr 18)), some (.inl k), some (.inl n)]) (as := [.inr (.inr 18), .inl k, .inl n]) (rest := []) 20 0 0 0 0 rfl rfl (Nat.le_of_ble_eq_true rfl) rfl (Nat.le_of_ble_eq_true rfl) rfl rfl (Nat.le_of_ble_eq_true rfl) rfl (Nat.le_of_ble_eq_true rfl) rfl (Nat.le_refl _) (Nat.le_refl _) rfl rfl (tg_18 S) ?_
      refine x_isKnown S k n (by omega) (fun c1 => ?_) (fun c1 => ?_)
      · show Wp (d + 2) 0 0 M_X0_bookAt 20 [some (.inr (.inr 18)), some (.inl n), some (.inl k)] [.inl 1] h _
        refine p_if_eq_f 23 rfl rfl (by decide) ?_
        refine p_aload 24 rfl rfl rfl ?_
        refine p_getfr (j := 0) (z := 19) 27 rfl rfl rfl (tg_18 S) rfl (fi_18_0 S) ?_
        refine p_iload 28 rfl rfl rfl ?_
        refine p_aald (w := 201) (z := gv h 19 k) 29 rfl rfl (Or.inl (tg_19 S)) (ln_19 S) (by omega) (by omega) rfl ?_
        refine p_ifnull 32 39 rfl rfl rfl (fun c2 => ?_) (fun c2 => ?_)
        · skip
          refine p_iinc (y := k - 1) (ls' := [some (.inr (.inr 18)), some (.inl n), some (.inl (k - 1))]) 42 rfl rfl rfl (wsub_id ⟨(by omega), (by omega)⟩) rfl ?_
          refine p_goto 9 rfl rfl ?_
          -- leaf 1: loop 9 [some (.inr (.inr 18)), some (.inl n), some (.inl (k - 1))] st=[] h=h 
          exact ih _ (by omega) (by omega) (nx (fun z => by omega))
        · skip
          refine p_aload 33 rfl rfl rfl ?_
          refine p_getfr (j := 0) (z := 19) 36 rfl rfl rfl (tg_18 S) rfl (fi_18_0 S) ?_
          refine p_iload 37 rfl rfl rfl ?_
          refine p_aald (w := 201) (z := gv h 19 k) 38 rfl rfl (Or.inl (tg_19 S)) (ln_19 S) (by omega) (by omega) rfl ?_
          refine p_aret rfl rfl ?_
          -- leaf 2: answer [.inr (.inr (gv h 19 k))] h=h 
          rw [← e] at K; unfold bkAt at K; rw [kc, if_pos ⟨by omega, by omega⟩] at K; exact K
      · show Wp (d + 2) 0 0 M_X0_bookAt 20 [some (.inr (.inr 18)), some (.inl n), some (.inl k)] [.inl 0] h _
        refine p_if_eq_t 39 rfl rfl (by decide) ?_
        refine p_iinc (y := k - 1) (ls' := [some (.inr (.inr 18)), some (.inl n), some (.inl (k - 1))]) 42 rfl rfl rfl (wsub_id ⟨(by omega), (by omega)⟩) rfl ?_
        refine p_goto 9 rfl rfl ?_
        -- leaf 3: loop 9 [some (.inr (.inr 18)), some (.inl n), some (.inl (k - 1))] st=[] h=h 
        exact ih _ (by omega) (by omega) (nx (fun z => by omega))
  refine p_iload 1 rfl rfl rfl ?_
  refine p_aload 2 rfl rfl rfl ?_
  refine p_getfi (j := 5) (z := gv h 18 5) 5 rfl rfl rfl (tg_18 S) rfl rfl ?_
  refine p_mini (z := min n (gv h 18 5)) 8 rfl rfl (Nat.succ_pos _) (Nat.le_of_ble_eq_true rfl) rfl ?_
  refine p_istore (ls' := [some (.inr (.inr 18)), some (.inl n), some (.inl (min n (gv h 18 5)))]) 9 rfl rfl (Nat.le_of_ble_eq_true rfl) rfl ?_
  -- leaf 1: loop 9 [some (.inr (.inr 18)), some (.inl n), some (.inl (min n (gv h 18 5)))] st=[] h=h 
  exact L n.toNat _ (by omega) (by omega) rfl
theorem m_bookAt {d : Nat} {h : PH} {q : PQ} (S : Shape h) (n : Int) (A : AI h) (n0 : 0 ≤ n) (n1 : n ≤ gv h 18 5) (K : q (some (.inl (bkAt h n n.toNat))) h) :
    Wp (d + 2) 0 0 M_X12_bookAt 0 [some (.inr (.inr 66)), some (.inl n), none, none] [] h q := by
  obtain ⟨⟨a1, a2, a3, a4, a5, a6, a7⟩, a8, a9⟩ := A
  have L : ∀ (c g : Nat) (k f : Int), g + c = n.toNat → k = g + 1 → f = bkAt h n g → Wp (d + 2) 0 0 M_X12_bookAt 4 [some (.inr (.inr 66)), some (.inl n), some (.inl f), some (.inl k)] [] h q := by
    intro c
    induction c with
    | zero =>
      intro g k f hg hk e
      refine p_iload 5 rfl rfl rfl ?_
      refine p_iload 6 rfl rfl rfl ?_
      refine p_ic_gt_t 36 rfl rfl (by omega) ?_
      refine p_iload 37 rfl rfl rfl ?_
      refine p_iret rfl rfl ?_
      -- leaf 1: answer [.inl f] h=h 
      rw [e, show g = n.toNat by omega]; exact K
    | succ c ih =>
      intro g k f hg hk e
      have kc : ((g : Int) + 1) = k := by omega
      refine p_iload 5 rfl rfl rfl ?_
      refine p_iload 6 rfl rfl rfl ?_
      refine p_ic_gt_f 9 rfl rfl (by omega) ?_
      refine p_aload 10 rfl rfl rfl ?_
      refine p_getfr (j := 41) (z := 94) 13 rfl rfl rfl (tg_66 S) rfl (fi_66_41 S) ?_
      refine p_iload 14 rfl rfl rfl ?_
      refine p_iald (w := 201) (z := gv h 94 k) 15 rfl rfl (tg_94 S) (ln_94 S) (by omega) (by omega) rfl ?_
      refine p_const 16 rfl rfl ?_
      refine p_ic_ne 19 30 rfl rfl rfl (fun c1 => ?_) (fun c1 => ?_)
      · skip
        refine p_iinc (y := k + 1) (ls' := [some (.inr (.inr 66)), some (.inl n), some (.inl f), some (.inl (k + 1))]) 33 rfl rfl rfl (w32_id ⟨(by omega), (by omega)⟩) rfl ?_
        refine p_goto 4 rfl rfl ?_
        -- leaf 1: loop 4 [some (.inr (.inr 66)), some (.inl n), some (.inl f), some (.inl (k + 1))] st=[] h=h 
        exact ih (g + 1) _ _ (by omega) (by omega) (by unfold bkAt; rw [kc]; first | rw [if_pos ⟨by omega, by omega⟩] | rw [if_neg (by omega), e])
      · skip
        refine p_aload 20 rfl rfl rfl ?_
        refine p_iload 21 rfl rfl rfl ?_
        refine p_iload 22 rfl rfl rfl ?_
        refine p_callv (le := [some (.inr (.inr 66)), some (.inl k), some (.inl n)]) (as := [.inr (.inr 66), .inl k, .inl n]) (rest := []) 25 0 0 0 0 rfl rfl (Nat.le_of_ble_eq_true rfl) rfl (Nat.le_of_ble_eq_true rfl) rfl rfl (Nat.le_of_ble_eq_true rfl) rfl (Nat.le_of_ble_eq_true rfl) rfl (Nat.le_refl _) (Nat.le_refl _) rfl rfl (tg_66 S) ?_
        refine m_isKnown S k n (by omega) (by omega) (fun c2 => ?_) (fun c2 => ?_)
        · show Wp (d + 2) 0 0 M_X12_bookAt 25 [some (.inr (.inr 66)), some (.inl n), some (.inl f), some (.inl k)] [.inl 1] h _
          refine p_if_eq_f 28 rfl rfl (by decide) ?_
          refine p_iload 29 rfl rfl rfl ?_
          refine p_istore (ls' := [some (.inr (.inr 66)), some (.inl n), some (.inl k), some (.inl k)]) 30 rfl rfl (Nat.le_of_ble_eq_true rfl) rfl ?_
          refine p_iinc (y := k + 1) (ls' := [some (.inr (.inr 66)), some (.inl n), some (.inl k), some (.inl (k + 1))]) 33 rfl rfl rfl (w32_id ⟨(by omega), (by omega)⟩) rfl ?_
          refine p_goto 4 rfl rfl ?_
          -- leaf 2: loop 4 [some (.inr (.inr 66)), some (.inl n), some (.inl k), some (.inl (k + 1))] st=[] h=h 
          exact ih (g + 1) _ _ (by omega) (by omega) (by unfold bkAt; rw [kc]; first | rw [if_pos ⟨by omega, by omega⟩] | rw [if_neg (by omega), e])
        · show Wp (d + 2) 0 0 M_X12_bookAt 25 [some (.inr (.inr 66)), some (.inl n), some (.inl f), some (.inl k)] [.inl 0] h _
          refine p_if_eq_t 30 rfl rfl (by decide) ?_
          refine p_iinc (y := k + 1) (ls' := [some (.inr (.inr 66)), some (.inl n), some (.inl f), some (.inl (k + 1))]) 33 rfl rfl rfl (w32_id ⟨(by omega), (by omega)⟩) rfl ?_
          refine p_goto 4 rfl rfl ?_
          -- leaf 3: loop 4 [some (.inr (.inr 66)), some (.inl n), some (.inl f), some (.inl (k + 1))] st=[] h=h 
          exact ih (g + 1) _ _ (by omega) (by omega) (by unfold bkAt; rw [kc]; first | rw [if_pos ⟨by omega, by omega⟩] | rw [if_neg (by omega), e])
  refine p_const 1 rfl rfl ?_
  refine p_istore (ls' := [some (.inr (.inr 66)), some (.inl n), some (.inl 0), none]) 2 rfl rfl (Nat.le_of_ble_eq_true rfl) rfl ?_
  refine p_const 3 rfl rfl ?_
  refine p_istore (ls' := [some (.inr (.inr 66)), some (.inl n), some (.inl 0), some (.inl 1)]) 4 rfl rfl (Nat.le_of_ble_eq_true rfl) rfl ?_
  -- leaf 1: loop 4 [some (.inr (.inr 66)), some (.inl n), some (.inl 0), some (.inl 1)] st=[] h=h 
  exact L n.toNat 0 _ _ (by omega) rfl rfl

