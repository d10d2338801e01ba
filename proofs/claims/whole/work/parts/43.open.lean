/-! PREPARE AND OPENS: which senses hold, and the first sense of each name -/
theorem or64_nat {x y : Int} (hx : 0 ≤ x ∧ x < 4611686018427387904) (hy : 0 ≤ y ∧ y < 4611686018427387904) : or64 x y = ((x.toNat ||| y.toNat : Nat) : Int) := by
  unfold or64
  have e : (BitVec.ofInt 64 x ||| BitVec.ofInt 64 y).toNat = x.toNat ||| y.toNat := by
    rw [BitVec.toNat_or, BitVec.toNat_ofInt, BitVec.toNat_ofInt, Int.emod_eq_of_lt hx.1 (by have := hx.2; show x < 18446744073709551616; omega), Int.emod_eq_of_lt hy.1 (by have := hy.2; show y < 18446744073709551616; omega)]
  have hl : x.toNat ||| y.toNat < 2 ^ 62 := Nat.or_lt_two_pow (by have := hx.2; show x.toNat < 4611686018427387904; omega) (by have := hy.2; show y.toNat < 4611686018427387904; omega)
  rw [BitVec.toInt_eq_toNat_of_lt (by rw [e]; omega), e]
theorem p2_in64 {s : Int} (s1 : s ≤ 60) : (2 : Nat) ^ s.toNat ≤ 1152921504606846976 := Nat.le_trans (show (2 : Nat) ^ s.toNat ≤ 2 ^ 60 from Nat.pow_le_pow_right (by decide) (by omega)) (by decide)
theorem p2_int64 {s : Int} (s1 : s ≤ 60) : 0 ≤ ((2 ^ s.toNat : Nat) : Int) ∧ ((2 ^ s.toNat : Nat) : Int) < 4611686018427387904 := by
  have p := p2_in64 s1
  generalize (2 : Nat) ^ s.toNat = n at p ⊢
  omega
theorem w64_p2 {s : Int} (s1 : s ≤ 60) : w64 (1 * 2 ^ s.toNat) = ((2 ^ s.toNat : Nat) : Int) := by
  rw [Int.one_mul, show (2 : Int) ^ s.toNat = ((2 ^ s.toNat : Nat) : Int) by rw [Int.natCast_pow]; rfl]
  have p := p2_int64 s1
  exact w64_id ⟨Int.le_trans (by decide) p.1, Int.lt_trans p.2 (by decide)⟩
/-- a set of at most 40 places, as a number -/
abbrev b40 (u : Int) : Prop := 0 ≤ u ∧ u < 1099511627776
theorem or_in64 {u s : Int} (u0 : b40 u) (s1 : s ≤ 39) : b40 (or64 u (w64 (1 * 2 ^ s.toNat))) := by
  have p := p2_in64 (show s ≤ 60 by omega)
  have u1 := u0.1
  have u2 := u0.2
  rw [w64_p2 (by omega), or64_nat ⟨u1, by omega⟩ (p2_int64 (by omega)), Int.toNat_natCast]
  have p' : (2 : Nat) ^ s.toNat < 2 ^ 40 := Nat.pow_lt_pow_right (by decide) (by omega)
  have := Nat.or_lt_two_pow (x := u.toNat) (y := 2 ^ s.toNat) (n := 40) (by show u.toNat < 1099511627776; omega) p'
  have e : (2 : Nat) ^ 40 = 1099511627776 := by decide
  constructor <;> omega
theorem or_bit64 {u s t : Int} (u0 : b40 u) (s0 : 0 ≤ s) (s1 : s ≤ 39) (t0 : 0 ≤ t) : bit (or64 u (w64 (1 * 2 ^ s.toNat))) t = if t = s then 1 else bit u t := by
  have u1 := u0.1
  have u2 := u0.2
  rw [bit_tb (or_in64 u0 s1).1, bit_tb u0.1, w64_p2 (by omega), or64_nat ⟨u1, by omega⟩ (p2_int64 (by omega)), Int.toNat_natCast, Int.toNat_natCast, Nat.testBit_or, Nat.testBit_two_pow]
  by_cases c : t = s
  · rw [if_pos c, c, decide_eq_true rfl, Bool.or_true, if_pos rfl]
  · rw [if_neg c, decide_eq_false (by omega), Bool.or_false]
theorem or_ne64 {u s : Int} (u0 : b40 u) (s0 : 0 ≤ s) (s1 : s ≤ 39) : or64 u (w64 (1 * 2 ^ s.toNat)) ≠ 0 := by
  intro e
  have := or_bit64 u0 s0 s1 s0
  rw [e, if_pos rfl, bit_zero] at this
  exact absurd this (by decide)
/-- the first of the first n places of f with the value v -/
def frs (f : Int → Int) (v : Int) : Nat → Int
  | 0 => -1
  | n + 1 => if frs f v n = -1 then (if f n = v then (n : Int) else -1) else frs f v n
theorem isF_frs (f : Int → Int) (v : Int) : ∀ n : Nat, isF f n v (frs f v n)
  | 0 => Or.inr ⟨rfl, fun j j0 j1 => by exfalso; have j1 : j < (0 : Int) := j1; omega⟩
  | n + 1 => by
    have z := isF_frs f v n
    unfold frs
    by_cases c : frs f v n = -1
    · rw [if_pos c]
      have nn : ∀ j, 0 ≤ j → j < (n : Int) → f j ≠ v := by
        rcases z with ⟨z1, _⟩ | ⟨_, z⟩
        · omega
        · exact z
      by_cases y : f n = v
      · rw [if_pos y]; exact Or.inl ⟨by omega, by omega, y, nn⟩
      · rw [if_neg y]
        refine Or.inr ⟨rfl, fun j j0 j1 => ?_⟩
        by_cases w : j = n
        · rw [w]; exact y
        · exact nn j j0 (by omega)
    · rw [if_neg c]
      rcases z with ⟨z1, z2, z3, z4⟩ | ⟨z1, z2⟩
      · exact Or.inl ⟨z1, by omega, z3, z4⟩
      · exact absurd z1 c
/-- the first sense of book k with the name of sense j -/
def fi (h : PH) (k j : Int) : Int := frs (nm h k) (nm h k j) (gv h 79 k).toNat
theorem fi_is {h : PH} {k j : Int} (n0 : 0 ≤ gv h 79 k) : isF (nm h k) (gv h 79 k) (nm h k j) (fi h k j) := by
  have := isF_frs (nm h k) (nm h k j) (gv h 79 k).toNat
  rw [Int.toNat_of_nonneg n0] at this
  exact this
theorem fi_eq {h : PH} {k j d : Int} (n0 : 0 ≤ gv h 79 k) (z : isF (nm h k) (gv h 79 k) (nm h k j) d) : d = fi h k j := isF_same z (fi_is n0)
theorem fi_in {h : PH} {k j : Int} (j0 : 0 ≤ j) (j1 : j < gv h 79 k) : 0 ≤ fi h k j ∧ fi h k j < gv h 79 k ∧ nm h k (fi h k j) = nm h k j := by
  rcases fi_is (h := h) (k := k) (j := j) (by omega) with ⟨a, b, c, _⟩ | ⟨_, b⟩
  · exact ⟨a, b, c⟩
  · exact absurd rfl (b j j0 j1)
/-- what depends on the books alone -/
theorem bk_congr {h h' : PH} (K : Keep bkB h h') (k : Int) : nm h' k = nm h k ∧ cd h' k = cd h k ∧ tf h' k = tf h k ∧ te h' k = te h k ∧ cc h' k = cc h k ∧ gv h' 79 k = gv h 79 k :=
  ⟨funext fun _ => K.1 80 _ rfl, funext fun _ => K.1 81 _ rfl, funext fun _ => K.1 82 _ rfl, funext fun _ => K.1 83 _ rfl, funext fun _ => K.1 84 _ rfl, K.1 79 k rfl⟩
theorem tv_congr {h h' : PH} (K : Keep bkB h h') (k s t z i : Int) : tv h' k s t z i = tv h k s t z i := by
  obtain ⟨_, _, e3, e4, e5, _⟩ := bk_congr K k
  unfold tv
  rw [e3, e4, e5]
theorem fi_congr {h h' : PH} (K : Keep bkB h h') (k j : Int) : fi h' k j = fi h k j := by
  obtain ⟨e1, _, _, _, _, e6⟩ := bk_congr K k
  unfold fi
  rw [e1, e6]
abbrev zh (h : PH) (t : Int) : Int := hz h (t + 1).toNat
theorem zh_in {h : PH} (F : FI h) {t : Int} (t0 : 0 ≤ t) (t1 : t < 1000) : 0 ≤ zh h t ∧ zh h t ≤ 9 := hz_in F.hn _ (by omega)
def pA (a i : Int) : Bool := decide ((a = 24 ∧ (i = 2 ∨ i = 3)) ∨ a = 30 ∨ a = 31)
theorem pA_bkB : ∀ a i, bkB a i = false → pA a i = false := fun a i => dw (by omega)
theorem fA_pA : ∀ a i, pA a i = false → fA a i = false := fun a i => dw (by omega)
theorem fA_bkB : ∀ a i, bkB a i = false → fA a i = false := fun a i => dw (by omega)
/-- the readings are made ready for book a (the model's k), ship s, minute t -/
def Prep (h : PH) (a k s t z : Int) : Prop := gv h 24 2 = a ∧ b40 (gv h 24 3) ∧ ∀ j, 0 ≤ j → j < gv h 79 k → bit (gv h 24 3) j = tv h k s t z j
theorem BkR.tv_in {h : PH} {a k s t z j : Int} (R : BkR h a k) (hs : 0 ≤ s ∧ s < 10) (ht : 0 ≤ t ∧ t < 1000) (hz : 0 ≤ z ∧ z ≤ 9) (j0 : 0 ≤ j) (j1 : j < gv h 79 k) : tv h k s t z j = 0 ∨ tv h k s t z j = 1 := by
  obtain ⟨_, _, pl, _, _, _, I⟩ := R
  obtain ⟨_, _, _, _, _, _, ⟨j7, j8, j9⟩, j10, _⟩ := I j j0 j1
  exact tv_01 hs ht hz j8 j10
theorem BkI.prev {h : PH} {a k pl i n : Int} (I : ∀ i, 0 ≤ i → i < n → BkI h a k pl i) (i1 : i < n) : 0 < i → gv h (a + 3) (i - 1) = te h k (i - 1) := fun z => (I (i - 1) (by omega) (by omega)).2.2.2.2.1
theorem x_prepare {d : Nat} {h : PH} {q : PQ} (S : Shape h) (a s t : Int) {k : Int} (R : BkR h a k) (F : FI h) (hs : 0 ≤ s ∧ s < 10) (ht : 0 ≤ t ∧ t < 1000) (K : ∀ h', (Keep pA h h' ∧ Prep h' a k s t (zh h t)) → Shape h' → q none h') :
    Wp (d + 3) 0 0 M_X5_prepare 0 [some (.inr (.inr 24)), some (.inr (.inr a)), some (.inl s), some (.inl t), none] [] h q := by
  have hzz := zh_in F ht.1 ht.2
  have h10 := F.h10 t ht.1 ht.2
  have L : ∀ (c : Nat) (j : Int) (h1 : PH), j + c = gv h 79 k → 0 ≤ j → Shape h1 → Keep pA h h1 → gv h1 24 2 = a → gv h1 30 1 = s → gv h1 30 2 = t → gv h1 30 3 = zh h t → b40 (gv h1 24 3) → (∀ i, 0 ≤ i → i < j → bit (gv h1 24 3) i = tv h k s t (zh h t) i) → (∀ i, j ≤ i → bit (gv h1 24 3) i = 0) →
      Wp (d + 3) 0 0 M_X5_prepare 30 [some (.inr (.inr 24)), some (.inr (.inr a)), some (.inl s), some (.inl t), some (.inl j)] [] h1 q := by
    intro c
    induction c with
    | zero =>
      intro j h1 hj j0 S1 kp g1 g2 g3 g4 g5 g6 g7
      obtain ⟨n0, n40, pl, pl0, pl7, B, I⟩ := R.kp (kp.wide pA_bkB)
      have e9 : gv h1 79 k = gv h 79 k := kp.1 79 k rfl
      have a0 := B.ge
      have f0 := B.f0
      refine p_aload 31 rfl rfl rfl ?_
      refine p_ifnull 34 75 rfl rfl rfl (fun c1 => ?_) (fun c1 => ?_)
      · skip
        refine p_ret rfl rfl ?_
        -- leaf 1: answer [] h=h1 
        exfalso; omega
      · skip
        refine p_iload 36 rfl rfl rfl ?_
        refine p_aload 37 rfl rfl rfl ?_
        refine p_getfi (j := 0) (z := gv h1 a 0) 40 rfl rfl rfl B.tag rfl rfl ?_
        refine p_ic_ge_t 75 rfl rfl (by omega) ?_
        refine p_ret rfl rfl ?_
        -- leaf 2: answer [] h=h1 
        refine K h1 ⟨kp, g1, g5, fun i i0 i1 => ?_⟩ S1
        rw [tv_congr (kp.wide pA_bkB)]; exact g6 i i0 (by omega)
    | succ c ih =>
      intro j h1 hj j0 S1 kp g1 g2 g3 g4 g5 g6 g7
      have R1 := R.kp (kp.wide pA_bkB)
      obtain ⟨n0, n40, pl, pl0, pl7, B, I⟩ := R1
      have e9 : gv h1 79 k = gv h 79 k := kp.1 79 k rfl
      have a0 := B.ge
      have f0 := B.f0
      have I1 := I j j0 (by omega)
      have I2 := BkI.prev I (i := j) (by omega)
      have tc := tv_congr (kp.wide pA_bkB) k s t (zh h t) j
      have t01 := R.tv_in hs ht hzz j0 (by omega)
      refine p_aload 31 rfl rfl rfl ?_
      refine p_ifnull 34 75 rfl rfl rfl (fun c1 => ?_) (fun c1 => ?_)
      · skip
        refine p_ret rfl rfl ?_
        -- leaf 1: answer [] h=h1 
        exfalso; omega
      · skip
        refine p_iload 36 rfl rfl rfl ?_
        refine p_aload 37 rfl rfl rfl ?_
        refine p_getfi (j := 0) (z := gv h1 a 0) 40 rfl rfl rfl B.tag rfl rfl ?_
        refine p_ic_ge_f 43 rfl rfl (by omega) ?_
        refine p_aload 44 rfl rfl rfl ?_
        refine p_getfr (j := 1) (z := 30) 47 rfl rfl rfl (tg_24 S1) rfl (fi_24_1 S1) ?_
        refine p_aload 48 rfl rfl rfl ?_
        refine p_iload 50 rfl rfl rfl ?_
        refine p_callv (le := [some (.inr (.inr 30)), some (.inr (.inr a)), some (.inl j), none, none, none, none, none]) (as := [.inr (.inr 30), .inr (.inr a), .inl j]) (rest := []) 53 0 0 0 0 rfl rfl (Nat.le_of_ble_eq_true rfl) rfl (Nat.le_of_ble_eq_true rfl) rfl rfl (Nat.le_of_ble_eq_true rfl) rfl (Nat.le_of_ble_eq_true rfl) rfl (Nat.le_refl _) (Nat.le_refl _) rfl rfl (tg_30 S1) ?_
        refine x_testHolds S1 a j (B) (by omega) (I1) (by omega) (by omega) (by omega) (hs) (ht) (hzz) (g2) (g3) (g4) (I2) (fun r2 y2 p2 S2 => ?_)
        show Wp (d + 3) 0 0 M_X5_prepare 53 [some (.inr (.inr 24)), some (.inr (.inr a)), some (.inl s), some (.inl t), some (.inl j)] [.inl r2] y2 _
        refine p_if_eq 56 69 rfl rfl rfl (fun c3 => ?_) (fun c3 => ?_)
        · skip
          refine p_iinc (y := j + 1) (ls' := [some (.inr (.inr 24)), some (.inr (.inr a)), some (.inl s), some (.inl t), some (.inl (j + 1))]) 72 rfl rfl rfl (w32_id ⟨(by omega), (by omega)⟩) rfl ?_
          refine p_goto 30 rfl rfl ?_
          -- leaf 2: loop 30 [some (.inr (.inr 24)), some (.inr (.inr a)), some (.inl s), some (.inl t), some (.inl (j + 1))] st=[] h=y2 
          have kq := kp.trans (p2.1.wide fA_pA)
          have q3 : gv y2 24 3 = gv h1 24 3 := p2.1.1 24 3 rfl
          refine ih (j + 1) _ (by omega) (by omega) S2 kq ((p2.1.1 24 2 rfl).trans g1) ((p2.1.1 30 1 rfl).trans g2) ((p2.1.1 30 2 rfl).trans g3) ((p2.1.1 30 3 rfl).trans g4) (by rw [q3]; exact g5) ?_ ?_
          · rw [q3]
            intro i i0 i1
            by_cases z : i = j
            · rw [z, g7 j (Int.le_refl j), ← tc, ← p2.2]; exact c3.symm
            · exact g6 i i0 (by omega)
          · rw [q3]; exact fun i i0 => g7 i (by omega)
        · skip
          refine p_aload 57 rfl rfl rfl ?_
          refine p_dup 58 rfl rfl nl_r ?_
          refine p_getfl (j := 3) (z := gv y2 24 3) 61 rfl rfl rfl (tg_24 S2) rfl rfl ?_
          refine p_lconst 62 rfl rfl ?_
          refine p_iload 64 rfl rfl rfl ?_
          refine p_lshl (z := w64 (1 * 2 ^ (j).toNat)) 65 rfl rfl (by omega) (by omega) rfl ?_
          refine p_lor (z := or64 (gv y2 24 3) (w64 (1 * 2 ^ (j).toNat))) 66 rfl rfl rfl ?_
          refine p_putfl (j := 3) 69 rfl rfl rfl (fun z => absurd z (by decide)) (tg_24 S2) rfl ?_
          refine p_nmh (fun y4 e4 => ?_)
          have S4 : Shape y4 := by rw [e4]; exact S2.svF ff_24_3 _
          refine p_iinc (y := j + 1) (ls' := [some (.inr (.inr 24)), some (.inr (.inr a)), some (.inl s), some (.inl t), some (.inl (j + 1))]) 72 rfl rfl rfl (w32_id ⟨(by omega), (by omega)⟩) rfl ?_
          refine p_goto 30 rfl rfl ?_
          -- leaf 3: loop 30 [some (.inr (.inr 24)), some (.inr (.inr a)), some (.inl s), some (.inl t), some (.inl (j + 1))] st=[] h=y4 e4
          have kq := kp.trans (p2.1.wide fA_pA)
          have q3 : gv y2 24 3 = gv h1 24 3 := p2.1.1 24 3 rfl
          have q4 : gv y4 24 3 = or64 (gv h1 24 3) (w64 (1 * 2 ^ j.toNat)) := by rw [e4, sv_eq, q3]
          have q5 : ∀ u i, u ≠ 24 → gv y4 u i = gv y2 u i := fun u i hu => by rw [e4, sv_ne hu]
          refine ih (j + 1) _ (by omega) (by omega) S4 (by rw [e4]; exact kq.sv rfl _) (by rw [e4, sv_nf (by decide)]; exact (p2.1.1 24 2 rfl).trans g1) (by rw [q5 30 1 (by decide)]; exact (p2.1.1 30 1 rfl).trans g2) (by rw [q5 30 2 (by decide)]; exact (p2.1.1 30 2 rfl).trans g3) (by rw [q5 30 3 (by decide)]; exact (p2.1.1 30 3 rfl).trans g4) (by rw [q4]; exact or_in64 g5 (by omega)) ?_ ?_
          · intro i i0 i1
            rw [q4, or_bit64 g5 j0 (by omega) i0]
            by_cases z : i = j
            · rw [if_pos z, z]; omega
            · rw [if_neg z]; exact g6 i i0 (by omega)
          · intro i i0
            rw [q4, or_bit64 g5 j0 (by omega) (by omega), if_neg (by omega)]
            exact g7 i (by omega)
  have a0 : 0 ≤ gv h 79 k := R.1
  refine p_aload 1 rfl rfl rfl ?_
  refine p_aload 2 rfl rfl rfl ?_
  refine p_putfr (j := 2) 5 rfl rfl rfl (fun z => absurd z (by decide)) (tg_24 S) rfl ?_
  refine p_nmh (fun y1 e1 => ?_)
  have S1 : Shape y1 := by rw [e1]; exact S.svF ff_24_2 _
  have kp1 : Keep pA h y1 := by rw [e1]; exact (Keep.rf pA _).sv rfl _
  refine p_aload 6 rfl rfl rfl ?_
  refine p_lconst 7 rfl rfl ?_
  refine p_putfl (j := 3) 10 rfl rfl rfl (fun z => absurd z (by decide)) (tg_24 S1) rfl ?_
  refine p_nmh (fun y2 e2 => ?_)
  have S2 : Shape y2 := by rw [e2]; exact S1.svF ff_24_3 _
  have kp2 : Keep pA h y2 := by rw [e2]; exact kp1.sv rfl _
  refine p_aload 11 rfl rfl rfl ?_
  refine p_getfr (j := 1) (z := 30) 14 rfl rfl rfl (tg_24 S2) rfl (fi_24_1 S2) ?_
  refine p_iload 15 rfl rfl rfl ?_
  refine p_iload 16 rfl rfl rfl ?_
  refine p_aload 17 rfl rfl rfl ?_
  refine p_getfr (j := 0) (z := 5) 20 rfl rfl rfl (tg_24 S2) rfl (fi_24_0 S2) ?_
  refine p_iload 21 rfl rfl rfl ?_
  refine p_callv (le := [some (.inr (.inr 5)), some (.inl t)]) (as := [.inr (.inr 5), .inl t]) (rest := [.inl t, .inl s, .inr (.inr 30)]) 24 0 0 0 0 rfl rfl (Nat.le_of_ble_eq_true rfl) rfl (Nat.le_of_ble_eq_true rfl) rfl rfl (Nat.le_of_ble_eq_true rfl) rfl (Nat.le_of_ble_eq_true rfl) rfl (Nat.le_refl _) (Nat.le_refl _) rfl rfl (tg_5 S2) ?_
  refine p_iload 1 rfl rfl rfl ?_
  refine p_if_lt_f 4 rfl rfl (by omega) ?_
  refine p_iload 5 rfl rfl rfl ?_
  refine p_const 8 rfl rfl ?_
  refine p_ic_ge_f 11 rfl rfl (by omega) ?_
  refine p_aload 12 rfl rfl rfl ?_
  refine p_getfr (j := 4) (z := 10) 15 rfl rfl rfl (tg_5 S2) rfl (fi_5_4 S2) ?_
  refine p_iload 16 rfl rfl rfl ?_
  refine p_iald (w := 1000) (z := gv h 10 t) 17 rfl rfl (tg_10 S2) (ln_10 S2) (by omega) (by omega) (kp2.1 _ _ rfl) ?_
  refine p_const 18 rfl rfl ?_
  refine p_ishr (z := (gv h 10 t) / 2) 19 rfl rfl (by decide) (by decide) rfl ?_
  refine p_goto 23 rfl rfl ?_
  refine p_iret rfl rfl ?_
  show Wp (d + 3) 0 0 M_X5_prepare 24 [some (.inr (.inr 24)), some (.inr (.inr a)), some (.inl s), some (.inl t), none] [.inl ((gv h 10 t) / 2), .inl t, .inl s, .inr (.inr 30)] y2 _
  refine p_callv (le := [some (.inr (.inr 30)), some (.inl s), some (.inl t), some (.inl ((gv h 10 t) / 2))]) (as := [.inr (.inr 30), .inl s, .inl t, .inl ((gv h 10 t) / 2)]) (rest := []) 27 0 0 0 0 rfl rfl (Nat.le_of_ble_eq_true rfl) rfl (Nat.le_of_ble_eq_true rfl) rfl rfl (Nat.le_of_ble_eq_true rfl) rfl (Nat.le_of_ble_eq_true rfl) rfl (Nat.le_refl _) (Nat.le_refl _) rfl rfl (tg_30 S2) ?_
  refine p_aload 1 rfl rfl rfl ?_
  refine p_iload 2 rfl rfl rfl ?_
  refine p_putfi (j := 1) 5 rfl rfl rfl (fun z => absurd z (by decide)) (tg_30 S2) rfl ?_
  refine p_nmh (fun y3 e3 => ?_)
  have S3 : Shape y3 := by rw [e3]; exact S2.svF ff_30_1 _
  have kp3 : Keep pA h y3 := by rw [e3]; exact kp2.sv rfl _
  refine p_aload 6 rfl rfl rfl ?_
  refine p_iload 7 rfl rfl rfl ?_
  refine p_putfi (j := 2) 10 rfl rfl rfl (fun z => absurd z (by decide)) (tg_30 S3) rfl ?_
  refine p_nmh (fun y4 e4 => ?_)
  have S4 : Shape y4 := by rw [e4]; exact S3.svF ff_30_2 _
  have kp4 : Keep pA h y4 := by rw [e4]; exact kp3.sv rfl _
  refine p_aload 11 rfl rfl rfl ?_
  refine p_iload 12 rfl rfl rfl ?_
  refine p_putfi (j := 3) 15 rfl rfl rfl (fun z => absurd z (by decide)) (tg_30 S4) rfl ?_
  refine p_nmh (fun y5 e5 => ?_)
  have S5 : Shape y5 := by rw [e5]; exact S4.svF ff_30_3 _
  have kp5 : Keep pA h y5 := by rw [e5]; exact kp4.sv rfl _
  refine p_ret rfl rfl ?_
  show Wp (d + 3) 0 0 M_X5_prepare 27 [some (.inr (.inr 24)), some (.inr (.inr a)), some (.inl s), some (.inl t), none] [] y5 _
  refine p_const 28 rfl rfl ?_
  refine p_istore (ls' := [some (.inr (.inr 24)), some (.inr (.inr a)), some (.inl s), some (.inl t), some (.inl 0)]) 30 rfl rfl (Nat.le_of_ble_eq_true rfl) rfl ?_
  -- leaf 1: loop 30 [some (.inr (.inr 24)), some (.inr (.inr a)), some (.inl s), some (.inl t), some (.inl 0)] st=[] h=y5 e5,e4,e3,e2,e1 kp5
  refine L (gv h 79 k).toNat 0 _ (by omega) (by omega) S5 kp5 ?_ ?_ ?_ ?_ ?_ ?_ ?_
  · rw [e5, e4, e3, e2, e1, sv_ne (by decide), sv_ne (by decide), sv_ne (by decide), sv_nf (by decide), sv_eq]
  · rw [e5, e4, e3, e2, e1, sv_nf (by decide), sv_nf (by decide), sv_eq]
  · rw [e5, e4, e3, e2, e1, sv_nf (by decide), sv_eq]
  · rw [e5, e4, e3, e2, e1, sv_eq, h10.2.2]
  · rw [e5, e4, e3, e2, e1, sv_ne (by decide), sv_ne (by decide), sv_ne (by decide), sv_eq]; exact ⟨by decide, by decide⟩
  · exact fun i i0 i1 => by omega
  · intro i i0; rw [e5, e4, e3, e2, e1, sv_ne (by decide), sv_ne (by decide), sv_ne (by decide), sv_eq]; exact bit_zero i
/-! the model's side -/
def moA (a i : Int) : Bool := decide ((a = 66 ∧ (i = 48 ∨ i = 49)) ∨ (99 ≤ a ∧ a ≤ 101))
theorem moA_mA : ∀ a i, mA a i = false → moA a i = false := fun a i => dw (by omega)
theorem moA_bkB : ∀ a i, bkB a i = false → moA a i = false := fun a i => dw (by omega)
theorem mhA_moA : ∀ a i, moA a i = false → mhA a i = false := fun a i => dw (by omega)
/-- the model's book k is open for ship s, minute t -/
def Open (h : PH) (k s t z : Int) : Prop := gv h 66 49 = k ∧ ∀ j, 0 ≤ j → j < gv h 79 k → gv h 100 j = tv h k s t z j ∧ gv h 101 j = fi h k j
theorem m_opensBook {d : Nat} {h : PH} {q : PQ} (S : Shape h) (k s t : Int) {a : Int} (R : BkR h a k) (F : FI h) (k0 : 0 ≤ k) (k1 : k ≤ 200) (hs : 0 ≤ s ∧ s < 10) (ht : 0 ≤ t ∧ t < 1000) (K : ∀ h', (Keep moA h h' ∧ Open h' k s t (zh h t)) → Shape h' → q none h') :
    Wp (d + 4) 0 0 M_X12_opensBook 0 [some (.inr (.inr 66)), some (.inl k), some (.inl s), some (.inl t), none, none] [] h q := by
  have hzz := zh_in F ht.1 ht.2
  have R0 := R
  obtain ⟨n0, n40, _⟩ := R
  have L : ∀ (c : Nat) (j : Int) (w : Option PV) (h1 : PH), j + c = gv h 79 k → 0 ≤ j → Shape h1 → Keep moA h h1 → gv h1 66 49 = k → (∀ i, 0 ≤ i → i < j → gv h1 100 i = tv h k s t (zh h t) i ∧ gv h1 101 i = fi h k i) →
      Wp (d + 4) 0 0 M_X12_opensBook 8 [some (.inr (.inr 66)), some (.inl k), some (.inl s), some (.inl t), some (.inl j), w] [] h1 q := by
    intro c
    induction c with
    | zero =>
      intro j w h1 hj j0 S1 kp g1 g2
      have e9 : gv h1 79 k = gv h 79 k := kp.1 79 k rfl
      refine p_iload 10 rfl rfl rfl ?_
      refine p_aload 11 rfl rfl rfl ?_
      refine p_getfr (j := 20) (z := 79) 14 rfl rfl rfl (tg_66 S1) rfl (fi_66_20 S1) ?_
      refine p_iload 15 rfl rfl rfl ?_
      refine p_iald (w := 201) (z := gv h1 79 k) 16 rfl rfl (tg_79 S1) (ln_79 S1) (by omega) (by omega) rfl ?_
      refine p_ic_ge_t 104 rfl rfl (by omega) ?_
      refine p_ret rfl rfl ?_
      -- leaf 1: answer [] h=h1 
      refine K h1 ⟨kp, g1, fun i i0 i1 => ?_⟩ S1
      rw [tv_congr (kp.wide moA_bkB), fi_congr (kp.wide moA_bkB)]; exact g2 i i0 (by omega)
    | succ c ih =>
      intro j w h1 hj j0 S1 kp g1 g2
      have R1 := R0.kp (kp.wide moA_bkB)
      have t01 := R1.tv_in (s := s) (t := t) (z := zh h t) (j := j) hs ht hzz j0 (by have : gv h1 79 k = gv h 79 k := kp.1 79 k rfl; omega)
      have F1 := F.kp (kp.wide moA_bkB)
      obtain ⟨m0, m40, pl, pl0, pl7, B1, I1⟩ := R1
      have e9 : gv h1 79 k = gv h 79 k := kp.1 79 k rfl
      have I2 := I1 j j0 (by omega)
      have inner : ∀ (c2 : Nat) (i : Int) (h2 : PH), i + 1 = c2 → i < j → Shape h2 → Keep moA h h2 → gv h2 66 49 = k → (∀ i, 0 ≤ i → i < j → gv h2 100 i = tv h k s t (zh h t) i ∧ gv h2 101 i = fi h k i) → gv h2 100 j = tv h k s t (zh h t) j →
          (i < gv h2 101 j ∧ gv h2 101 j ≤ j ∧ nm h k (gv h2 101 j) = nm h k j ∧ ∀ e, i < e → e < gv h2 101 j → nm h k e ≠ nm h k j) →
          Wp (d + 4) 0 0 M_X12_opensBook 50 [some (.inr (.inr 66)), some (.inl k), some (.inl s), some (.inl t), some (.inl j), some (.inl i)] [] h2 q := by
        intro c2
        induction c2 with
        | zero =>
          intro i h2 hi ij S2 k2 v1 v2 v3 v4
          have di := fi_eq (h := h) (k := k) (j := j) (d := gv h2 101 j) n0 (Or.inl ⟨by omega, by omega, v4.2.2.1, fun e e0 e1 => v4.2.2.2 e (by omega) e1⟩)
          refine p_iload 52 rfl rfl rfl ?_
          refine p_if_lt_t 98 rfl rfl (by omega) ?_
          refine p_iinc (y := j + 1) (ls' := [some (.inr (.inr 66)), some (.inl k), some (.inl s), some (.inl t), some (.inl (j + 1)), some (.inl i)]) 101 rfl rfl rfl (w32_id ⟨(by omega), (by omega)⟩) rfl ?_
          refine p_goto 8 rfl rfl ?_
          -- leaf 1: loop 8 [some (.inr (.inr 66)), some (.inl k), some (.inl s), some (.inl t), some (.inl (j + 1)), some (.inl i)] st=[] h=h2  k2
          exact ih (j + 1) _ h2 (by omega) (by omega) S2 k2 v1 (all_up v2 ⟨v3, di⟩)
        | succ c2 ih2 =>
          intro i h2 hi ij S2 k2 v1 v2 v3 v4
          have en : ∀ x, gv h 80 (40 * k + x) = nm h k x := fun _ => rfl
          have en1 := en i
          have en2 := en j
          refine p_iload 52 rfl rfl rfl ?_
          refine p_if_lt_f 55 rfl rfl (by omega) ?_
          refine p_aload 56 rfl rfl rfl ?_
          refine p_getfr (j := 21) (z := 80) 59 rfl rfl rfl (tg_66 S2) rfl (fi_66_21 S2) ?_
          refine p_const 61 rfl rfl ?_
          refine p_iload 62 rfl rfl rfl ?_
          refine p_imul (z := 40 * k) 63 rfl rfl (w32_id ⟨(by omega), (by omega)⟩) ?_
          refine p_iload 65 rfl rfl rfl ?_
          refine p_iadd (z := (40 * k) + i) 66 rfl rfl (w32_id ⟨(by omega), (by omega)⟩) ?_
          refine p_lald (w := 8040) (z := gv h 80 ((40 * k) + i)) 67 rfl rfl (tg_80 S2) (ln_80 S2) (by omega) (by omega) (k2.1 _ _ rfl) ?_
          refine p_aload 68 rfl rfl rfl ?_
          refine p_getfr (j := 21) (z := 80) 71 rfl rfl rfl (tg_66 S2) rfl (fi_66_21 S2) ?_
          refine p_const 73 rfl rfl ?_
          refine p_iload 74 rfl rfl rfl ?_
          refine p_imul (z := 40 * k) 75 rfl rfl (w32_id ⟨(by omega), (by omega)⟩) ?_
          refine p_iload 77 rfl rfl rfl ?_
          refine p_iadd (z := (40 * k) + j) 78 rfl rfl (w32_id ⟨(by omega), (by omega)⟩) ?_
          refine p_lald (w := 8040) (z := gv h 80 ((40 * k) + j)) 79 rfl rfl (tg_80 S2) (ln_80 S2) (by omega) (by omega) (k2.1 _ _ rfl) ?_
          refine p_lc_ne 80 83 92 rfl rfl rfl rfl rfl (fun c1 => ?_) (fun c1 => ?_)
          · skip
            refine p_iinc (y := i - 1) (ls' := [some (.inr (.inr 66)), some (.inl k), some (.inl s), some (.inl t), some (.inl j), some (.inl (i - 1))]) 95 rfl rfl rfl (wsub_id ⟨(by omega), (by omega)⟩) rfl ?_
            refine p_goto 50 rfl rfl ?_
            -- leaf 1: loop 50 [some (.inr (.inr 66)), some (.inl k), some (.inl s), some (.inl t), some (.inl j), some (.inl (i - 1))] st=[] h=h2  k2
            refine ih2 (i - 1) h2 (by omega) (by omega) S2 k2 v1 v2 v3 ⟨by omega, v4.2.1, v4.2.2.1, fun e e0 e1 => ?_⟩
            by_cases z : e = i
            · rw [z]; omega
            · exact v4.2.2.2 e (by omega) e1
          · skip
            refine p_aload 84 rfl rfl rfl ?_
            refine p_getfr (j := 51) (z := 101) 87 rfl rfl rfl (tg_66 S2) rfl (fi_66_51 S2) ?_
            refine p_iload 89 rfl rfl rfl ?_
            refine p_iload 91 rfl rfl rfl ?_
            refine p_iast (w := 40) 92 rfl rfl (by decide) (tg_101 S2) (ln_101 S2) (by omega) (by omega) ?_
            refine p_nmh (fun y2 e2 => ?_)
            have S2 : Shape y2 := by rw [e2]; exact S2.svA fa_101 _ _
            have kp2 : Keep moA h y2 := by rw [e2]; exact k2.sv rfl _
            refine p_iinc (y := i - 1) (ls' := [some (.inr (.inr 66)), some (.inl k), some (.inl s), some (.inl t), some (.inl j), some (.inl (i - 1))]) 95 rfl rfl rfl (wsub_id ⟨(by omega), (by omega)⟩) rfl ?_
            refine p_goto 50 rfl rfl ?_
            -- leaf 2: loop 50 [some (.inr (.inr 66)), some (.inl k), some (.inl s), some (.inl t), some (.inl j), some (.inl (i - 1))] st=[] h=y2 e2 kp2
            have e3 : gv y2 101 j = i := by rw [e2, sv_eq]
            refine ih2 (i - 1) _ (by omega) (by omega) S2 kp2 (by rw [e2, sv_ne (by decide)]; exact v1) (fun x x0 x1 => by rw [e2, sv_ne (by decide), sv_nf (by omega)]; exact v2 x x0 x1) (by rw [e2, sv_ne (by decide)]; exact v3) ?_
            rw [e3]
            exact ⟨by omega, by omega, by omega, fun e e0 e1 => by omega⟩
      refine p_iload 10 rfl rfl rfl ?_
      refine p_aload 11 rfl rfl rfl ?_
      refine p_getfr (j := 20) (z := 79) 14 rfl rfl rfl (tg_66 S1) rfl (fi_66_20 S1) ?_
      refine p_iload 15 rfl rfl rfl ?_
      refine p_iald (w := 201) (z := gv h1 79 k) 16 rfl rfl (tg_79 S1) (ln_79 S1) (by omega) (by omega) rfl ?_
      refine p_ic_ge_f 19 rfl rfl (by omega) ?_
      refine p_aload 20 rfl rfl rfl ?_
      refine p_getfr (j := 50) (z := 100) 23 rfl rfl rfl (tg_66 S1) rfl (fi_66_50 S1) ?_
      refine p_iload 25 rfl rfl rfl ?_
      refine p_aload 26 rfl rfl rfl ?_
      refine p_iload 27 rfl rfl rfl ?_
      refine p_iload 29 rfl rfl rfl ?_
      refine p_iload 30 rfl rfl rfl ?_
      refine p_iload 31 rfl rfl rfl ?_
      refine p_callv (le := [some (.inr (.inr 66)), some (.inl k), some (.inl j), some (.inl s), some (.inl t), none, none, none]) (as := [.inr (.inr 66), .inl k, .inl j, .inl s, .inl t]) (rest := [.inl j, .inr (.inr 100)]) 34 0 0 0 0 rfl rfl (Nat.le_of_ble_eq_true rfl) rfl (Nat.le_of_ble_eq_true rfl) rfl rfl (Nat.le_of_ble_eq_true rfl) rfl (Nat.le_of_ble_eq_true rfl) rfl (Nat.le_refl _) (Nat.le_refl _) rfl rfl (tg_66 S1) ?_
      refine m_holdsTest S1 k j s t (hs) (ht) (by omega) (by omega) (by omega) (by omega) (F1) (I2) (by omega) (fun r1 y1 p1 S1 => ?_)
      show Wp (d + 4) 0 0 M_X12_opensBook 34 [some (.inr (.inr 66)), some (.inl k), some (.inl s), some (.inl t), some (.inl j), w] [.inl r1, .inl j, .inr (.inr 100)] y1 _
      have hw : zh h1 t = zh h t := hz_congr _ (fun t _ => ⟨kp.1 89 _ rfl, kp.1 90 _ rfl⟩)
      have rv : r1 = tv h1 k s t (zh h t) j := by rw [← hw]; exact p1.2
      refine p_zast (w := 40) 35 rfl rfl (by decide) (tg_100 S1) (ln_100 S1) (by omega) (by omega) ⟨(by omega), (by omega)⟩ ?_
      refine p_nmh (fun y2 e2 => ?_)
      have S2 : Shape y2 := by rw [e2]; exact S1.svA fa_100 _ _
      refine p_aload 36 rfl rfl rfl ?_
      refine p_getfr (j := 51) (z := 101) 39 rfl rfl rfl (tg_66 S2) rfl (fi_66_51 S2) ?_
      refine p_iload 41 rfl rfl rfl ?_
      refine p_iload 43 rfl rfl rfl ?_
      refine p_iast (w := 40) 44 rfl rfl (by decide) (tg_101 S2) (ln_101 S2) (by omega) (by omega) ?_
      refine p_nmh (fun y3 e3 => ?_)
      have S3 : Shape y3 := by rw [e3]; exact S2.svA fa_101 _ _
      refine p_iload 46 rfl rfl rfl ?_
      refine p_const 47 rfl rfl ?_
      refine p_isub (z := j - 1) 48 rfl rfl (w32_id ⟨(by omega), (by omega)⟩) ?_
      refine p_istore (ls' := [some (.inr (.inr 66)), some (.inl k), some (.inl s), some (.inl t), some (.inl j), some (.inl (j - 1))]) 50 rfl rfl (Nat.le_of_ble_eq_true rfl) rfl ?_
      -- leaf 1: loop 50 [some (.inr (.inr 66)), some (.inl k), some (.inl s), some (.inl t), some (.inl j), some (.inl (j - 1))] st=[] h=y3 e3,e2
      have kq := kp.trans (p1.1.wide mhA_moA)
      have E : ∀ a i, a ≠ 100 → a ≠ 101 → gv y3 a i = gv y1 a i := fun a i q1 q2 => by rw [e3, e2, sv_ne q2, sv_ne q1]
      have e4 : gv y3 101 j = j := by rw [e3, sv_eq]
      refine inner j.toNat (j - 1) _ (by omega) (by omega) S3 (by rw [e3, e2]; exact (kq.sv rfl _).sv rfl _) (by rw [E 66 49 (by decide) (by decide), p1.1.1 66 49 rfl]; exact g1) ?_ ?_ ?_
      · intro x x0 x1
        rw [e3, e2, sv_ne (by decide), sv_nf (by omega), sv_nf (by omega), sv_ne (by decide), p1.1.1 100 _ rfl, p1.1.1 101 _ rfl]
        exact g2 x x0 x1
      · rw [e3, e2, sv_ne (by decide), sv_eq, rv, tv_congr (kp.wide moA_bkB)]
      · rw [e4]; exact ⟨by omega, by omega, rfl, fun e e0 e1 => by omega⟩
  refine p_aload 1 rfl rfl rfl ?_
  refine p_iload 2 rfl rfl rfl ?_
  refine p_putfi (j := 49) 5 rfl rfl rfl (fun z => absurd z (by decide)) (tg_66 S) rfl ?_
  refine p_nmh (fun y1 e1 => ?_)
  have S1 : Shape y1 := by rw [e1]; exact S.svF ff_66_49 _
  have kp1 : Keep moA h y1 := by rw [e1]; exact (Keep.rf moA _).sv rfl _
  refine p_const 6 rfl rfl ?_
  refine p_istore (ls' := [some (.inr (.inr 66)), some (.inl k), some (.inl s), some (.inl t), some (.inl 0), none]) 8 rfl rfl (Nat.le_of_ble_eq_true rfl) rfl ?_
  -- leaf 1: loop 8 [some (.inr (.inr 66)), some (.inl k), some (.inl s), some (.inl t), some (.inl 0), none] st=[] h=y1 e1 kp1
  exact L (gv h 79 k).toNat 0 none _ (by omega) (by omega) S1 kp1 (by rw [e1, sv_eq]) (fun i i0 i1 => by omega)

