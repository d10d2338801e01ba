/-! TELLS: the letters of a hoist -/
def lv (v n : Int) : Nat → Int
  | 0 => 0
  | k + 1 => lv v n k * 32 + if sg v n k ≤ 26 then sg v n k else sg (lv v n k) k (sg v n k - 26 - 1)
def lt (v n : Int) (k : Nat) : Int := if sg v n k ≤ 26 then sg v n k else sg (lv v n k) k (sg v n k - 26 - 1)
theorem lt_in (v n : Int) (k : Nat) : 0 ≤ lt v n k ∧ lt v n k < 32 := by
  unfold lt
  have a := sg_in v n k
  have b := sg_in (lv v n k) k (sg v n k - 26 - 1)
  split <;> omega
theorem lv_up (v n : Int) (k : Nat) : lv v n (k + 1) = lv v n k * 32 + lt v n k := rfl
theorem lv_in (v n : Int) : ∀ k : Nat, k ≤ 4 → 0 ≤ lv v n k ∧ lv v n k < 1048576 ∧ (k ≤ 3 → lv v n k < 32768) ∧ (k ≤ 2 → lv v n k < 1024) ∧ (k ≤ 1 → lv v n k < 32) ∧ (k = 0 → lv v n k = 0)
  | 0, _ => by show 0 ≤ (0 : Int) ∧ _; refine ⟨by omega, ?_⟩; show (0 : Int) < _ ∧ (_ → (0 : Int) < _) ∧ (_ → (0 : Int) < _) ∧ (_ → (0 : Int) < _) ∧ (_ → (0 : Int) = 0); omega
  | k + 1, hk => by
    have a := lv_in v n k (by omega)
    have b := lt_in v n k
    rw [lv_up]
    omega
theorem sh5r {v m : Int} (h0 : 0 ≤ m) (h1 : m ≤ 4) : v / 2 ^ (5 * (m + 1)).toNat = v / 32 / 2 ^ (5 * m).toNat := by
  rcases (show m = 0 ∨ m = 1 ∨ m = 2 ∨ m = 3 ∨ m = 4 by omega) with rfl | rfl | rfl | rfl | rfl
  · show v / 32 = v / 32 / 1; omega
  · show v / 1024 = v / 32 / 32; omega
  · show v / 32768 = v / 32 / 1024; omega
  · show v / 1048576 = v / 32 / 32768; omega
  · show v / 33554432 = v / 32 / 1048576; omega
theorem sg_lo {l y k j : Int} (y0 : 0 ≤ y) (y1 : y < 32) (j0 : 0 ≤ j) (jk : j < k) (k4 : k ≤ 4) : sg (l * 32 + y) (k + 1) j = sg l k j := by
  unfold sg
  rw [show 5 * (k + 1 - 1 - j) = 5 * ((k - 1 - j) + 1) by omega, sh5r (by omega) (by omega), show (l * 32 + y) / 32 = l by omega]
theorem sg_hi {l y k : Int} (y0 : 0 ≤ y) (y1 : y < 32) : sg (l * 32 + y) (k + 1) k = y := by
  unfold sg
  rw [show 5 * (k + 1 - 1 - k) = 0 by omega]
  show (l * 32 + y) / 1 % 32 = y
  omega
theorem sg_lv (v n : Int) : ∀ k : Nat, k ≤ 4 → ∀ j : Nat, j < k → sg (lv v n k) k j = lt v n j
  | 0, _, j, hj => by omega
  | k + 1, hk, j, hj => by
    have b := lt_in v n k
    rw [lv_up, show ((k + 1 : Nat) : Int) = (k : Int) + 1 from rfl]
    by_cases z : j = k
    · rw [z, sg_hi b.1 b.2]
    · rw [sg_lo b.1 b.2 (by omega) (by omega) (by omega)]; exact sg_lv v n k (by omega) j (by omega)
def good (v n k : Int) : Prop := 1 ≤ sg v n k ∧ sg v n k ≤ 29 ∧ sg v n k - 26 ≤ k ∧ ∀ j, 0 ≤ j → j < k → sg v n j ≠ sg v n k
def isHo (v : Int) : Prop := 0 < rl v ∧ ∀ k, 0 ≤ k → k < rl v → good v (rl v) k
abbrev TellsR (v r : Int) : Prop := (isHo v ∧ r = lv v (rl v) (rl v).toNat) ∨ (¬ isHo v ∧ r = -1)
theorem lt_pos {v n : Int} : ∀ k : Nat, k ≤ 4 → (∀ j : Nat, j ≤ k → good v n j) → 1 ≤ lt v n k ∧ lt v n k ≤ 26 := by
  intro k
  induction k using Nat.strongRecOn with
  | _ k ih =>
    intro k4 g
    obtain ⟨g1, g2, g3, g4⟩ := g k (Nat.le_refl k)
    by_cases c : sg v n k ≤ 26
    · unfold lt; rw [if_pos c]; omega
    · have e : lt v n k = lt v n (sg v n k - 26 - 1).toNat := by
        rw [show lt v n k = sg (lv v n k) k (sg v n k - 26 - 1) by unfold lt; rw [if_neg c], ← sg_lv v n k k4 (sg v n k - 26 - 1).toNat (by omega), Int.toNat_of_nonneg (by omega)]
      rw [e]
      exact ih _ (by omega) (by omega) (fun j hj => g j (by omega))
theorem noHo {v k : Int} (k0 : 0 ≤ k) (k1 : k < rl v) (g : ¬ good v (rl v) k) : ¬ isHo v := fun z => g (z.2 k k0 k1)
/-- a number holds the set of the first k signs -/
def setOf (u v n k : Int) : Prop := 0 ≤ u ∧ u < 1073741824 ∧ ∀ t, 0 ≤ t → (bit u t = 0 ↔ ∀ j, 0 ≤ j → j < k → sg v n j ≠ t)
theorem setOf_up {u v n k : Int} (k0 : 0 ≤ k) (b : setOf u v n k) (s1 : sg v n k ≤ 29) : setOf (or32 u (w32 (1 * 2 ^ (sg v n k).toNat))) v n (k + 1) := by
  obtain ⟨b1, b2, b3⟩ := b
  have o := or_in b1 b2 s1
  refine ⟨o.1, o.2, fun t t0 => ?_⟩
  rw [or_bit b1 b2 (sg_in v n k).1 s1 t0]
  by_cases c : t = sg v n k
  · rw [if_pos c]
    exact ⟨fun z => absurd z (by decide), fun z => absurd c.symm (z k k0 (by omega))⟩
  · rw [if_neg c]
    exact ⟨fun z j j0 j1 => by
      by_cases y : j = k
      · rw [y]; exact fun w => c w.symm
      · exact (b3 t t0).1 z j j0 (by omega), fun z => (b3 t t0).2 (fun j j0 j1 => z j j0 (by omega))⟩
theorem x_told_loop {d : Nat} {h : PH} {q : PQ} (S : Shape h) (v : Int) (K : ∀ r, TellsR v r → q (some (.inl r)) h) :
    ∀ (c kk : Nat) (k u l : Int) (w1 w2 : Option PV), k = kk → k + c = rl v → setOf u v (rl v) k → l = lv v (rl v) kk → (∀ j, 0 ≤ j → j < k → good v (rl v) j) →
      Wp (d + 3) 0 0 M_X11_toldBy 12 [some (.inl v), some (.inl (rl v)), some (.inl u), some (.inl l), some (.inl k), w1, w2] [] h q := by
  intro c
  have b := rl_in v
  induction c with
  | zero =>
    intro kk k u l w1 w2 hk hc hu hl hg
    refine p_iload 14 rfl rfl rfl ?_
    refine p_iload 15 rfl rfl rfl ?_
    refine p_ic_ge_t 89 rfl rfl (by omega) ?_
    refine p_iload 90 rfl rfl rfl ?_
    refine p_if_le 93 97 rfl rfl rfl (fun c1 => ?_) (fun c1 => ?_)
    · skip
      refine p_const 98 rfl rfl ?_
      refine p_iret rfl rfl ?_
      -- leaf 1: answer [.inl (-1)] h=h
      exact K _ (Or.inr ⟨fun z => by have := z.1; omega, rfl⟩)
    · skip
      refine p_iload 94 rfl rfl rfl ?_
      refine p_goto 98 rfl rfl ?_
      refine p_iret rfl rfl ?_
      -- leaf 2: answer [.inl l] h=h
      exact K _ (Or.inl ⟨⟨by omega, fun j j0 j1 => hg j j0 (by omega)⟩, by rw [hl, show (rl v).toNat = kk by omega]⟩)
  | succ c ih =>
    intro kk k u l w1 w2 hk hc hu hl hg
    have si := sg_in v (rl v) k
    have li := lv_in v (rl v) kk (by omega)
    have lp : good v (rl v) k → 1 ≤ lt v (rl v) kk ∧ lt v (rl v) kk ≤ 26 := fun g => lt_pos kk (by omega) (fun j hj => by
      by_cases z : j = kk
      · rw [z, ← hk]; exact g
      · exact hg j (by omega) (by omega))
    have k0 : 0 ≤ k := by omega
    have k1 : k < rl v := by omega
    have lin := lt_in v (rl v) kk
    have u0 := hu.1
    have u1 := hu.2.1
    have ub := hu.2.2 (sg v (rl v) k) si.1
    have lhi : ¬ sg v (rl v) k ≤ 26 → lt v (rl v) kk = sg l k (sg v (rl v) k - 26 - 1) := fun z => by unfold lt; rw [← hk, if_neg z, hl]
    have llo : sg v (rl v) k ≤ 26 → lt v (rl v) kk = sg v (rl v) k := fun z => by unfold lt; rw [← hk, if_pos z]
    have up : lv v (rl v) (kk + 1) = l * 32 + lt v (rl v) kk := by rw [hl]; rfl
    have fin : ∀ (y : Int) (a1 a2 : Option PV), sg v (rl v) k ≤ 29 → sg v (rl v) k - 26 ≤ k → y = lt v (rl v) kk → 1 ≤ y → bit u (sg v (rl v) k) = 0 → good v (rl v) k → Wp (d + 3) 0 0 M_X11_toldBy 12 [some (.inl v), some (.inl (rl v)), some (.inl (or32 u (w32 (1 * 2 ^ (sg v (rl v) k).toNat)))), some (.inl (or32 (l * 32) y)), some (.inl (k + 1)), a1, a2] [] h q := by
      intro y a1 a2 g1 g2 gy y1 gb g
      refine ih (kk + 1) (k + 1) _ _ a1 a2 (by omega) (by omega) (setOf_up k0 hu g1) ?_ (all_up hg g)
      rw [up, ← gy]
      exact or32_add (by omega) (by omega) (by omega) (by omega)
    refine p_iload 14 rfl rfl rfl ?_
    refine p_iload 15 rfl rfl rfl ?_
    refine p_ic_ge_f 18 rfl rfl (by omega) ?_
    refine p_iload 19 rfl rfl rfl ?_
    refine p_iload 20 rfl rfl rfl ?_
    refine p_iload 22 rfl rfl rfl ?_
    refine p_calls (le := [some (.inl v), some (.inl (rl v)), some (.inl k)]) (as := [.inl v, .inl (rl v), .inl k]) (rest := []) 25 0 0 0 0 rfl rfl (Nat.le_of_ble_eq_true rfl) rfl (Nat.le_of_ble_eq_true rfl) rfl rfl (Nat.le_of_ble_eq_true rfl) rfl (Nat.le_of_ble_eq_true rfl) rfl (Nat.le_refl _) (Nat.le_refl _) rfl rfl ?_
    refine x_sg S v (rl v) k (by omega) (by omega) (by omega) (by omega) ?_
    show Wp (d + 3) 0 0 M_X11_toldBy 25 [some (.inl v), some (.inl (rl v)), some (.inl u), some (.inl l), some (.inl k), w1, w2] [.inl (sg v (rl v) k)] h _
    refine p_istore (ls' := [some (.inl v), some (.inl (rl v)), some (.inl u), some (.inl l), some (.inl k), some (.inl (sg v (rl v) k)), w2]) 27 rfl rfl (Nat.le_of_ble_eq_true rfl) rfl ?_
    refine p_iload 29 rfl rfl rfl ?_
    refine p_const 31 rfl rfl ?_
    refine p_ic_gt 34 39 rfl rfl rfl (fun c1 => ?_) (fun c1 => ?_)
    · skip
      refine p_iload 40 rfl rfl rfl ?_
      refine p_iload 42 rfl rfl rfl ?_
      refine p_iload 44 rfl rfl rfl ?_
      refine p_const 46 rfl rfl ?_
      refine p_isub (z := (sg v (rl v) k) - 26) 47 rfl rfl (w32_id ⟨(by omega), (by omega)⟩) ?_
      refine p_calls (le := [some (.inl l), some (.inl k), some (.inl ((sg v (rl v) k) - 26))]) (as := [.inl l, .inl k, .inl ((sg v (rl v) k) - 26)]) (rest := []) 50 0 0 0 0 rfl rfl (Nat.le_of_ble_eq_true rfl) rfl (Nat.le_of_ble_eq_true rfl) rfl rfl (Nat.le_of_ble_eq_true rfl) rfl (Nat.le_of_ble_eq_true rfl) rfl (Nat.le_refl _) (Nat.le_refl _) rfl rfl ?_
      refine p_iload 1 rfl rfl rfl ?_
      refine p_const 2 rfl rfl ?_
      refine p_ic_gt 5 21 rfl rfl rfl (fun c2 => ?_) (fun c2 => ?_)
      · skip
        refine p_const 22 rfl rfl ?_
        refine p_iret rfl rfl ?_
        show Wp (d + 3) 0 0 M_X11_toldBy 50 [some (.inl v), some (.inl (rl v)), some (.inl u), some (.inl l), some (.inl k), some (.inl (sg v (rl v) k)), w2] [.inl 0] h _
        refine p_istore (ls' := [some (.inl v), some (.inl (rl v)), some (.inl u), some (.inl l), some (.inl k), some (.inl (sg v (rl v) k)), some (.inl 0)]) 52 rfl rfl (Nat.le_of_ble_eq_true rfl) rfl ?_
        refine p_iload 54 rfl rfl rfl ?_
        refine p_const 55 rfl rfl ?_
        refine p_ic_lt_t 67 rfl rfl (by decide) ?_
        refine p_const 68 rfl rfl ?_
        refine p_iret rfl rfl ?_
        -- leaf 1: answer [.inl (-1)] h=h
        exact K _ (Or.inr ⟨noHo k0 k1 (fun g => by have := g.2.1; omega), rfl⟩)
      · skip
        refine p_iload 6 rfl rfl rfl ?_
        refine p_iload 7 rfl rfl rfl ?_
        refine p_ic_gt 10 21 rfl rfl rfl (fun c3 => ?_) (fun c3 => ?_)
        · skip
          refine p_const 22 rfl rfl ?_
          refine p_iret rfl rfl ?_
          show Wp (d + 3) 0 0 M_X11_toldBy 50 [some (.inl v), some (.inl (rl v)), some (.inl u), some (.inl l), some (.inl k), some (.inl (sg v (rl v) k)), w2] [.inl 0] h _
          refine p_istore (ls' := [some (.inl v), some (.inl (rl v)), some (.inl u), some (.inl l), some (.inl k), some (.inl (sg v (rl v) k)), some (.inl 0)]) 52 rfl rfl (Nat.le_of_ble_eq_true rfl) rfl ?_
          refine p_iload 54 rfl rfl rfl ?_
          refine p_const 55 rfl rfl ?_
          refine p_ic_lt_t 67 rfl rfl (by decide) ?_
          refine p_const 68 rfl rfl ?_
          refine p_iret rfl rfl ?_
          -- leaf 2: answer [.inl (-1)] h=h
          exact K _ (Or.inr ⟨noHo k0 k1 (fun g => by have := g.2.2.1; omega), rfl⟩)
        · skip
          refine p_iload 11 rfl rfl rfl ?_
          refine p_iload 12 rfl rfl rfl ?_
          refine p_iload 13 rfl rfl rfl ?_
          refine p_const 14 rfl rfl ?_
          refine p_isub (z := ((sg v (rl v) k) - 26) - 1) 15 rfl rfl (w32_id ⟨(by omega), (by omega)⟩) ?_
          refine p_calls (le := [some (.inl l), some (.inl k), some (.inl (((sg v (rl v) k) - 26) - 1))]) (as := [.inl l, .inl k, .inl (((sg v (rl v) k) - 26) - 1)]) (rest := []) 18 0 0 0 0 rfl rfl (Nat.le_of_ble_eq_true rfl) rfl (Nat.le_of_ble_eq_true rfl) rfl rfl (Nat.le_of_ble_eq_true rfl) rfl (Nat.le_of_ble_eq_true rfl) rfl (Nat.le_refl _) (Nat.le_refl _) rfl rfl ?_
          refine x_sg S l k (((sg v (rl v) k) - 26) - 1) (by omega) (by omega) (by omega) (by omega) ?_
          show Wp (d + 2) 0 0 M_X11_repeated 18 [some (.inl l), some (.inl k), some (.inl ((sg v (rl v) k) - 26))] [.inl (sg l k (((sg v (rl v) k) - 26) - 1))] h _
          refine p_goto 22 rfl rfl ?_
          refine p_iret rfl rfl ?_
          show Wp (d + 3) 0 0 M_X11_toldBy 50 [some (.inl v), some (.inl (rl v)), some (.inl u), some (.inl l), some (.inl k), some (.inl (sg v (rl v) k)), w2] [.inl (sg l k (((sg v (rl v) k) - 26) - 1))] h _
          refine p_istore (ls' := [some (.inl v), some (.inl (rl v)), some (.inl u), some (.inl l), some (.inl k), some (.inl (sg v (rl v) k)), some (.inl (sg l k (((sg v (rl v) k) - 26) - 1)))]) 52 rfl rfl (Nat.le_of_ble_eq_true rfl) rfl ?_
          refine p_iload 54 rfl rfl rfl ?_
          refine p_const 55 rfl rfl ?_
          refine p_ic_lt 58 67 rfl rfl rfl (fun c4 => ?_) (fun c4 => ?_)
          · skip
            refine p_const 68 rfl rfl ?_
            refine p_iret rfl rfl ?_
            -- leaf 3: answer [.inl (-1)] h=h
            exact K _ (Or.inr ⟨noHo k0 k1 (fun g => by have := lp g; rw [lhi (by omega)] at this; omega), rfl⟩)
          · skip
            refine p_iload 59 rfl rfl rfl ?_
            refine p_iload 61 rfl rfl rfl ?_
            refine p_ishr (z := u / 2 ^ (sg v (rl v) k).toNat) 62 rfl rfl (by omega) (by omega) rfl ?_
            refine p_const 63 rfl rfl ?_
            refine p_iand (z := (u / 2 ^ (sg v (rl v) k).toNat) % 2) 64 rfl rfl (mask32 1 rfl (by decide)) ?_
            refine p_if_eq 67 69 rfl rfl rfl (fun c5 => ?_) (fun c5 => ?_)
            · skip
              refine p_iload 70 rfl rfl rfl ?_
              refine p_const 71 rfl rfl ?_
              refine p_iload 73 rfl rfl rfl ?_
              refine p_ishl (z := w32 (1 * 2 ^ (sg v (rl v) k).toNat)) 74 rfl rfl (by omega) (by omega) rfl ?_
              refine p_ior (z := or32 u (w32 (1 * 2 ^ (sg v (rl v) k).toNat))) 75 rfl rfl rfl ?_
              refine p_istore (ls' := [some (.inl v), some (.inl (rl v)), some (.inl (or32 u (w32 (1 * 2 ^ (sg v (rl v) k).toNat)))), some (.inl l), some (.inl k), some (.inl (sg v (rl v) k)), some (.inl (sg l k (((sg v (rl v) k) - 26) - 1)))]) 76 rfl rfl (Nat.le_of_ble_eq_true rfl) rfl ?_
              refine p_iload 77 rfl rfl rfl ?_
              refine p_const 78 rfl rfl ?_
              refine p_ishl (z := l * 32) 79 rfl rfl (by decide) (by decide) (w32_id (x := l * 32) ⟨(by omega), (by omega)⟩) ?_
              refine p_iload 81 rfl rfl rfl ?_
              refine p_ior (z := or32 (l * 32) (sg l k (((sg v (rl v) k) - 26) - 1))) 82 rfl rfl rfl ?_
              refine p_istore (ls' := [some (.inl v), some (.inl (rl v)), some (.inl (or32 u (w32 (1 * 2 ^ (sg v (rl v) k).toNat)))), some (.inl (or32 (l * 32) (sg l k (((sg v (rl v) k) - 26) - 1)))), some (.inl k), some (.inl (sg v (rl v) k)), some (.inl (sg l k (((sg v (rl v) k) - 26) - 1)))]) 83 rfl rfl (Nat.le_of_ble_eq_true rfl) rfl ?_
              refine p_iinc (y := k + 1) (ls' := [some (.inl v), some (.inl (rl v)), some (.inl (or32 u (w32 (1 * 2 ^ (sg v (rl v) k).toNat)))), some (.inl (or32 (l * 32) (sg l k (((sg v (rl v) k) - 26) - 1)))), some (.inl (k + 1)), some (.inl (sg v (rl v) k)), some (.inl (sg l k (((sg v (rl v) k) - 26) - 1)))]) 86 rfl rfl rfl (w32_id ⟨(by omega), (by omega)⟩) rfl ?_
              refine p_goto 12 rfl rfl ?_
              -- leaf 4: loop 12 [some (.inl v), some (.inl (rl v)), some (.inl (or32 u (w32 (1 * 2 ^ (sg v (rl v) k).toNat)))), some (.inl (or32 (l * 32) (sg l k (((sg v (rl v) k) - 26) - 1)))), some (.inl (k + 1)), some (.inl (sg v (rl v) k)), some (.inl (sg l k (((sg v (rl v) k) - 26) - 1)))] st=[] h=h
              exact fin _ _ _ (by omega) (by omega) (lhi (by omega)).symm c4 c5 ⟨by omega, by omega, by omega, ub.1 c5⟩
            · skip
              refine p_const 68 rfl rfl ?_
              refine p_iret rfl rfl ?_
              -- leaf 5: answer [.inl (-1)] h=h
              exact K _ (Or.inr ⟨noHo k0 k1 (fun g => c5 (ub.2 g.2.2.2)), rfl⟩)
    · skip
      refine p_iload 36 rfl rfl rfl ?_
      refine p_goto 50 rfl rfl ?_
      refine p_istore (ls' := [some (.inl v), some (.inl (rl v)), some (.inl u), some (.inl l), some (.inl k), some (.inl (sg v (rl v) k)), some (.inl (sg v (rl v) k))]) 52 rfl rfl (Nat.le_of_ble_eq_true rfl) rfl ?_
      refine p_iload 54 rfl rfl rfl ?_
      refine p_const 55 rfl rfl ?_
      refine p_ic_lt 58 67 rfl rfl rfl (fun c6 => ?_) (fun c6 => ?_)
      · skip
        refine p_const 68 rfl rfl ?_
        refine p_iret rfl rfl ?_
        -- leaf 6: answer [.inl (-1)] h=h
        exact K _ (Or.inr ⟨noHo k0 k1 (fun g => by have := g.1; omega), rfl⟩)
      · skip
        refine p_iload 59 rfl rfl rfl ?_
        refine p_iload 61 rfl rfl rfl ?_
        refine p_ishr (z := u / 2 ^ (sg v (rl v) k).toNat) 62 rfl rfl (by omega) (by omega) rfl ?_
        refine p_const 63 rfl rfl ?_
        refine p_iand (z := (u / 2 ^ (sg v (rl v) k).toNat) % 2) 64 rfl rfl (mask32 1 rfl (by decide)) ?_
        refine p_if_eq 67 69 rfl rfl rfl (fun c7 => ?_) (fun c7 => ?_)
        · skip
          refine p_iload 70 rfl rfl rfl ?_
          refine p_const 71 rfl rfl ?_
          refine p_iload 73 rfl rfl rfl ?_
          refine p_ishl (z := w32 (1 * 2 ^ (sg v (rl v) k).toNat)) 74 rfl rfl (by omega) (by omega) rfl ?_
          refine p_ior (z := or32 u (w32 (1 * 2 ^ (sg v (rl v) k).toNat))) 75 rfl rfl rfl ?_
          refine p_istore (ls' := [some (.inl v), some (.inl (rl v)), some (.inl (or32 u (w32 (1 * 2 ^ (sg v (rl v) k).toNat)))), some (.inl l), some (.inl k), some (.inl (sg v (rl v) k)), some (.inl (sg v (rl v) k))]) 76 rfl rfl (Nat.le_of_ble_eq_true rfl) rfl ?_
          refine p_iload 77 rfl rfl rfl ?_
          refine p_const 78 rfl rfl ?_
          refine p_ishl (z := l * 32) 79 rfl rfl (by decide) (by decide) (w32_id (x := l * 32) ⟨(by omega), (by omega)⟩) ?_
          refine p_iload 81 rfl rfl rfl ?_
          refine p_ior (z := or32 (l * 32) (sg v (rl v) k)) 82 rfl rfl rfl ?_
          refine p_istore (ls' := [some (.inl v), some (.inl (rl v)), some (.inl (or32 u (w32 (1 * 2 ^ (sg v (rl v) k).toNat)))), some (.inl (or32 (l * 32) (sg v (rl v) k))), some (.inl k), some (.inl (sg v (rl v) k)), some (.inl (sg v (rl v) k))]) 83 rfl rfl (Nat.le_of_ble_eq_true rfl) rfl ?_
          refine p_iinc (y := k + 1) (ls' := [some (.inl v), some (.inl (rl v)), some (.inl (or32 u (w32 (1 * 2 ^ (sg v (rl v) k).toNat)))), some (.inl (or32 (l * 32) (sg v (rl v) k))), some (.inl (k + 1)), some (.inl (sg v (rl v) k)), some (.inl (sg v (rl v) k))]) 86 rfl rfl rfl (w32_id ⟨(by omega), (by omega)⟩) rfl ?_
          refine p_goto 12 rfl rfl ?_
          -- leaf 7: loop 12 [some (.inl v), some (.inl (rl v)), some (.inl (or32 u (w32 (1 * 2 ^ (sg v (rl v) k).toNat)))), some (.inl (or32 (l * 32) (sg v (rl v) k))), some (.inl (k + 1)), some (.inl (sg v (rl v) k)), some (.inl (sg v (rl v) k))] st=[] h=h
          exact fin _ _ _ (by omega) (by omega) (llo (by omega)).symm c6 c7 ⟨by omega, by omega, by omega, ub.1 c7⟩
        · skip
          refine p_const 68 rfl rfl ?_
          refine p_iret rfl rfl ?_
          -- leaf 8: answer [.inl (-1)] h=h
          exact K _ (Or.inr ⟨noHo k0 k1 (fun g => c7 (ub.2 g.2.2.2)), rfl⟩)
theorem x_told {d : Nat} {h : PH} {q : PQ} (S : Shape h) (v : Int) (K : ∀ r, TellsR v r → q (some (.inl r)) h) :
    Wp (d + 3) 0 0 M_X11_toldBy 0 [some (.inl v), none, none, none, none, none, none] [] h q := by
  have b := rl_in v
  refine p_iload 1 rfl rfl rfl ?_
  refine p_calls (le := [some (.inl v)]) (as := [.inl v]) (rest := []) 4 0 0 0 0 rfl rfl (Nat.le_of_ble_eq_true rfl) rfl (Nat.le_of_ble_eq_true rfl) rfl rfl (Nat.le_of_ble_eq_true rfl) rfl (Nat.le_of_ble_eq_true rfl) rfl (Nat.le_refl _) (Nat.le_refl _) rfl rfl ?_
  refine x_rl S v  ?_
  show Wp (d + 3) 0 0 M_X11_toldBy 4 [some (.inl v), none, none, none, none, none, none] [.inl (rl v)] h _
  refine p_istore (ls' := [some (.inl v), some (.inl (rl v)), none, none, none, none, none]) 5 rfl rfl (Nat.le_of_ble_eq_true rfl) rfl ?_
  refine p_const 6 rfl rfl ?_
  refine p_istore (ls' := [some (.inl v), some (.inl (rl v)), some (.inl 0), none, none, none, none]) 7 rfl rfl (Nat.le_of_ble_eq_true rfl) rfl ?_
  refine p_const 8 rfl rfl ?_
  refine p_istore (ls' := [some (.inl v), some (.inl (rl v)), some (.inl 0), some (.inl 0), none, none, none]) 9 rfl rfl (Nat.le_of_ble_eq_true rfl) rfl ?_
  refine p_const 10 rfl rfl ?_
  refine p_istore (ls' := [some (.inl v), some (.inl (rl v)), some (.inl 0), some (.inl 0), some (.inl 0), none, none]) 12 rfl rfl (Nat.le_of_ble_eq_true rfl) rfl ?_
  -- leaf 1: loop 12 [some (.inl v), some (.inl (rl v)), some (.inl 0), some (.inl 0), some (.inl 0), none, none] st=[] h=h
  exact x_told_loop S v K (rl v).toNat 0 0 0 0 _ _ rfl (by omega) ⟨by decide, by decide, fun t _ => by rw [bit_zero]; exact ⟨fun _ j j0 j1 => by omega, fun _ => rfl⟩⟩ rfl (fun j j0 j1 => by omega)
theorem x_tells {d : Nat} {h : PH} {q : PQ} (S : Shape h) (v : Int) (K : ∀ r, TellsR v r → q (some (.inl r)) h) :
    Wp (d + 4) 0 0 M_X11_tells 0 [some (.inr (.inr 2)), some (.inl v)] [] h q := by
  refine p_iload 1 rfl rfl rfl ?_
  refine p_calls (le := [some (.inl v), none, none, none, none, none, none]) (as := [.inl v]) (rest := []) 4 0 0 0 0 rfl rfl (Nat.le_of_ble_eq_true rfl) rfl (Nat.le_of_ble_eq_true rfl) rfl rfl (Nat.le_of_ble_eq_true rfl) rfl (Nat.le_of_ble_eq_true rfl) rfl (Nat.le_refl _) (Nat.le_refl _) rfl rfl ?_
  refine x_told S v  (fun r1 p1 => ?_)
  show Wp (d + 4) 0 0 M_X11_tells 4 [some (.inr (.inr 2)), some (.inl v)] [.inl r1] h _
  refine p_iret rfl rfl ?_
  -- leaf 1: answer [.inl r1] h=h
  exact K _ p1

