/-! HOIST: the model's side -/
theorem m_bends_loop {d : Nat} {h : PH} {q : PQ} (S : Shape h) (s v L R : Int) (s0 : 0 ≤ s) (s1 : s < 10) (hL : gv h 86 s = L) (hR : gv h 87 s = R) (L0 : 0 ≤ L) (L1 : L < 67108864) (R0 : 0 ≤ R) (R3 : R ≤ 3) (vp : 0 < rl v)
    (hd : gv h 66 38 = rl v) (dg : ∀ j, 0 ≤ j → j < rl v → gv h 92 j = sg v (rl v) j ∧ 1 ≤ sg v (rl v) j ∧ sg v (rl v) j ≤ 26) (K : ∀ r, HoistR v L R r → q (some (.inl r)) h) :
    ∀ (c kk : Nat) (k u x : Int) (w1 w2 : Option PV), k = kk → k + c = rl v → u = hu v (rl v) L R kk → x = hh v (rl v) L R kk → (∀ j : Nat, j < kk → hs (hu v (rl v) L R j) v (rl v) j L R ≠ 0) →
      Wp (d + 2) 0 0 M_X12_bends 20 [some (.inr (.inr 66)), some (.inl s), some (.inl v), some (.inl u), some (.inl x), some (.inl k), w1, w2] [] h q := by
  intro c
  have b := rl_in v
  have g : ∀ k : Nat, (k : Int) < rl v → 1 ≤ sg v (rl v) k ∧ sg v (rl v) k ≤ 26 := fun k hk => (dg k (by omega) hk).2
  induction c with
  | zero =>
    intro kk k u x w1 w2 hk hc hu' hx ok
    refine p_iload 22 rfl rfl rfl ?_
    refine p_aload 23 rfl rfl rfl ?_
    refine p_getfi (j := 38) (z := gv h 66 38) 26 rfl rfl rfl (tg_66 S) rfl rfl ?_
    refine p_ic_ge_t 176 rfl rfl (by omega) ?_
    refine p_iload 178 rfl rfl rfl ?_
    refine p_iret rfl rfl ?_
    -- leaf 1: answer [.inl x] h=h
    exact K _ (Or.inl ⟨fun j hj => ok j (by omega), by rw [hx, show (rl v).toNat = kk by omega]⟩)
  | succ c ih =>
    intro kk k u x w1 w2 hk hc hu' hx ok
    have gk := g kk (by omega)
    rw [← hk] at gk
    have ui := hu_in (L := L) g R3 kk (by omega)
    have xi := hh_in (L := L) g R3 kk (by omega) (by omega)
    rw [← hu'] at ui
    rw [← hx] at xi
    have hin := hs_in (u := u) (v := v) (n := rl v) (k := k) (L := L) (R := R) ⟨by omega, gk.2⟩ R3
    have k0 : 0 ≤ k := by omega
    have k1 : k < rl v := by omega
    have dk := (dg k k0 k1).1
    have hsk : hs (hu v (rl v) L R kk) v (rl v) kk L R = hs u v (rl v) k L R := by rw [← hu', ← hk]
    have fin : ∀ (y : Int) (a1 a2 : Option PV), y = hs u v (rl v) k L R → y ≠ 0 → Wp (d + 2) 0 0 M_X12_bends 20 [some (.inr (.inr 66)), some (.inl s), some (.inl v), some (.inl (or32 u (w32 (1 * 2 ^ y.toNat)))), some (.inl (32 * x + y)), some (.inl (k + 1)), a1, a2] [] h q := by
      intro y a1 a2 hy y0
      refine ih (kk + 1) (k + 1) _ _ a1 a2 (by omega) (by omega) ?_ ?_ ?_
      · rw [hy, ← hsk, hu']; rfl
      · rw [hy, ← hsk, hx, Int.mul_comm 32]; rfl
      · intro j hj
        by_cases z : j = kk
        · rw [z, hsk, ← hy]; exact y0
        · exact ok j (by omega)
    have bad : hs u v (rl v) k L R = 0 → HoistR v L R (-1) := fun z => Or.inr ⟨⟨kk, by omega, by rw [hsk]; exact z⟩, rfl⟩
    have in2 : ∀ (y r : Int), y = hs u v (rl v) k L R → y ≠ 0 → Wp (d + 2) 0 0 M_X12_bends 79 [some (.inr (.inr 66)), some (.inl s), some (.inl v), some (.inl u), some (.inl x), some (.inl k), some (.inl y), some (.inl r)] [] h q := by
      intro y r hy y0
      refine p_iload 81 rfl rfl rfl ?_
      refine p_aload 82 rfl rfl rfl ?_
      refine p_getfr (j := 32) (z := 87) 85 rfl rfl rfl (tg_66 S) rfl (fi_66_32 S) ?_
      refine p_iload 86 rfl rfl rfl ?_
      refine p_iald (w := 10) (z := gv h 87 s) 87 rfl rfl (tg_87 S) (ln_87 S) (by omega) (by omega) rfl ?_
      refine p_ic_gt 90 146 rfl rfl rfl (fun c1 => ?_) (fun c1 => ?_)
      · skip
        refine p_iload 148 rfl rfl rfl ?_
        refine p_if_ne_t 153 rfl rfl (by omega) ?_
        refine p_iload 154 rfl rfl rfl ?_
        refine p_const 155 rfl rfl ?_
        refine p_iload 157 rfl rfl rfl ?_
        refine p_ishl (z := w32 (1 * 2 ^ (y).toNat)) 158 rfl rfl (by omega) (by omega) rfl ?_
        refine p_ior (z := or32 u (w32 (1 * 2 ^ (y).toNat))) 159 rfl rfl rfl ?_
        refine p_istore (ls' := [some (.inr (.inr 66)), some (.inl s), some (.inl v), some (.inl (or32 u (w32 (1 * 2 ^ (y).toNat)))), some (.inl x), some (.inl k), some (.inl y), some (.inl r)]) 160 rfl rfl (Nat.le_of_ble_eq_true rfl) rfl ?_
        refine p_const 162 rfl rfl ?_
        refine p_iload 164 rfl rfl rfl ?_
        refine p_imul (z := 32 * x) 165 rfl rfl (w32_id ⟨(by omega), (by omega)⟩) ?_
        refine p_iload 167 rfl rfl rfl ?_
        refine p_iadd (z := (32 * x) + y) 168 rfl rfl (w32_id ⟨(by omega), (by omega)⟩) ?_
        refine p_istore (ls' := [some (.inr (.inr 66)), some (.inl s), some (.inl v), some (.inl (or32 u (w32 (1 * 2 ^ (y).toNat)))), some (.inl ((32 * x) + y)), some (.inl k), some (.inl y), some (.inl r)]) 170 rfl rfl (Nat.le_of_ble_eq_true rfl) rfl ?_
        refine p_iinc (y := k + 1) (ls' := [some (.inr (.inr 66)), some (.inl s), some (.inl v), some (.inl (or32 u (w32 (1 * 2 ^ (y).toNat)))), some (.inl ((32 * x) + y)), some (.inl (k + 1)), some (.inl y), some (.inl r)]) 173 rfl rfl rfl (w32_id ⟨(by omega), (by omega)⟩) rfl ?_
        refine p_goto 20 rfl rfl ?_
        -- leaf 1: loop 20 [some (.inr (.inr 66)), some (.inl s), some (.inl v), some (.inl (or32 u (w32 (1 * 2 ^ (y).toNat)))), some (.inl ((32 * x) + y)), some (.inl (k + 1)), some (.inl y), some (.inl r)] st=[] h=h
        exact fin _ _ _ hy y0
      · skip
        refine p_iload 92 rfl rfl rfl ?_
        refine p_iload 94 rfl rfl rfl ?_
        refine p_ic_gt 97 146 rfl rfl rfl (fun c2 => ?_) (fun c2 => ?_)
        · skip
          refine p_iload 148 rfl rfl rfl ?_
          refine p_if_ne_t 153 rfl rfl (by omega) ?_
          refine p_iload 154 rfl rfl rfl ?_
          refine p_const 155 rfl rfl ?_
          refine p_iload 157 rfl rfl rfl ?_
          refine p_ishl (z := w32 (1 * 2 ^ (y).toNat)) 158 rfl rfl (by omega) (by omega) rfl ?_
          refine p_ior (z := or32 u (w32 (1 * 2 ^ (y).toNat))) 159 rfl rfl rfl ?_
          refine p_istore (ls' := [some (.inr (.inr 66)), some (.inl s), some (.inl v), some (.inl (or32 u (w32 (1 * 2 ^ (y).toNat)))), some (.inl x), some (.inl k), some (.inl y), some (.inl r)]) 160 rfl rfl (Nat.le_of_ble_eq_true rfl) rfl ?_
          refine p_const 162 rfl rfl ?_
          refine p_iload 164 rfl rfl rfl ?_
          refine p_imul (z := 32 * x) 165 rfl rfl (w32_id ⟨(by omega), (by omega)⟩) ?_
          refine p_iload 167 rfl rfl rfl ?_
          refine p_iadd (z := (32 * x) + y) 168 rfl rfl (w32_id ⟨(by omega), (by omega)⟩) ?_
          refine p_istore (ls' := [some (.inr (.inr 66)), some (.inl s), some (.inl v), some (.inl (or32 u (w32 (1 * 2 ^ (y).toNat)))), some (.inl ((32 * x) + y)), some (.inl k), some (.inl y), some (.inl r)]) 170 rfl rfl (Nat.le_of_ble_eq_true rfl) rfl ?_
          refine p_iinc (y := k + 1) (ls' := [some (.inr (.inr 66)), some (.inl s), some (.inl v), some (.inl (or32 u (w32 (1 * 2 ^ (y).toNat)))), some (.inl ((32 * x) + y)), some (.inl (k + 1)), some (.inl y), some (.inl r)]) 173 rfl rfl rfl (w32_id ⟨(by omega), (by omega)⟩) rfl ?_
          refine p_goto 20 rfl rfl ?_
          -- leaf 2: loop 20 [some (.inr (.inr 66)), some (.inl s), some (.inl v), some (.inl (or32 u (w32 (1 * 2 ^ (y).toNat)))), some (.inl ((32 * x) + y)), some (.inl (k + 1)), some (.inl y), some (.inl r)] st=[] h=h
          exact fin _ _ _ hy y0
        · skip
          refine p_iload 99 rfl rfl rfl ?_
          refine p_if_ne_t 146 rfl rfl (by omega) ?_
          refine p_iload 148 rfl rfl rfl ?_
          refine p_if_ne_t 153 rfl rfl (by omega) ?_
          refine p_iload 154 rfl rfl rfl ?_
          refine p_const 155 rfl rfl ?_
          refine p_iload 157 rfl rfl rfl ?_
          refine p_ishl (z := w32 (1 * 2 ^ (y).toNat)) 158 rfl rfl (by omega) (by omega) rfl ?_
          refine p_ior (z := or32 u (w32 (1 * 2 ^ (y).toNat))) 159 rfl rfl rfl ?_
          refine p_istore (ls' := [some (.inr (.inr 66)), some (.inl s), some (.inl v), some (.inl (or32 u (w32 (1 * 2 ^ (y).toNat)))), some (.inl x), some (.inl k), some (.inl y), some (.inl r)]) 160 rfl rfl (Nat.le_of_ble_eq_true rfl) rfl ?_
          refine p_const 162 rfl rfl ?_
          refine p_iload 164 rfl rfl rfl ?_
          refine p_imul (z := 32 * x) 165 rfl rfl (w32_id ⟨(by omega), (by omega)⟩) ?_
          refine p_iload 167 rfl rfl rfl ?_
          refine p_iadd (z := (32 * x) + y) 168 rfl rfl (w32_id ⟨(by omega), (by omega)⟩) ?_
          refine p_istore (ls' := [some (.inr (.inr 66)), some (.inl s), some (.inl v), some (.inl (or32 u (w32 (1 * 2 ^ (y).toNat)))), some (.inl ((32 * x) + y)), some (.inl k), some (.inl y), some (.inl r)]) 170 rfl rfl (Nat.le_of_ble_eq_true rfl) rfl ?_
          refine p_iinc (y := k + 1) (ls' := [some (.inr (.inr 66)), some (.inl s), some (.inl v), some (.inl (or32 u (w32 (1 * 2 ^ (y).toNat)))), some (.inl ((32 * x) + y)), some (.inl (k + 1)), some (.inl y), some (.inl r)]) 173 rfl rfl rfl (w32_id ⟨(by omega), (by omega)⟩) rfl ?_
          refine p_goto 20 rfl rfl ?_
          -- leaf 3: loop 20 [some (.inr (.inr 66)), some (.inl s), some (.inl v), some (.inl (or32 u (w32 (1 * 2 ^ (y).toNat)))), some (.inl ((32 * x) + y)), some (.inl (k + 1)), some (.inl y), some (.inl r)] st=[] h=h
          exact fin _ _ _ hy y0
    have in1 : ∀ (c2 : Nat) (r : Int), r + c2 = min R k + 1 → 1 ≤ r → hs u v (rl v) k L R = rp u v (rl v) k c2 r → Wp (d + 2) 0 0 M_X12_bends 79 [some (.inr (.inr 66)), some (.inl s), some (.inl v), some (.inl u), some (.inl x), some (.inl k), some (.inl 0), some (.inl r)] [] h q := by
      intro c2
      induction c2 with
      | zero =>
        intro r hr r1 hz
        refine p_iload 81 rfl rfl rfl ?_
        refine p_aload 82 rfl rfl rfl ?_
        refine p_getfr (j := 32) (z := 87) 85 rfl rfl rfl (tg_66 S) rfl (fi_66_32 S) ?_
        refine p_iload 86 rfl rfl rfl ?_
        refine p_iald (w := 10) (z := gv h 87 s) 87 rfl rfl (tg_87 S) (ln_87 S) (by omega) (by omega) rfl ?_
        refine p_ic_gt 90 146 rfl rfl rfl (fun c1 => ?_) (fun c1 => ?_)
        · skip
          refine p_iload 148 rfl rfl rfl ?_
          refine p_if_ne_f 151 rfl rfl (by decide) ?_
          refine p_const 152 rfl rfl ?_
          refine p_iret rfl rfl ?_
          -- leaf 1: answer [.inl (-1)] h=h
          exact K _ (bad hz)
        · skip
          refine p_iload 92 rfl rfl rfl ?_
          refine p_iload 94 rfl rfl rfl ?_
          refine p_ic_gt_t 146 rfl rfl (by omega) ?_
          refine p_iload 148 rfl rfl rfl ?_
          refine p_if_ne_f 151 rfl rfl (by decide) ?_
          refine p_const 152 rfl rfl ?_
          refine p_iret rfl rfl ?_
          -- leaf 2: answer [.inl (-1)] h=h
          exact K _ (bad hz)
      | succ c2 ih2 =>
        intro r hr r1 hz
        have dr := (dg (r - 1) (by omega) (by omega)).1
        have nx1 : ¬ (bit u (26 + r) = 0 ∧ sg v (rl v) (r - 1) = sg v (rl v) k) → hs u v (rl v) k L R = rp u v (rl v) k c2 (r + 1) := fun z => by rw [hz]; unfold rp; rw [if_neg z]; cases c2 <;> rfl
        refine p_iload 81 rfl rfl rfl ?_
        refine p_aload 82 rfl rfl rfl ?_
        refine p_getfr (j := 32) (z := 87) 85 rfl rfl rfl (tg_66 S) rfl (fi_66_32 S) ?_
        refine p_iload 86 rfl rfl rfl ?_
        refine p_iald (w := 10) (z := gv h 87 s) 87 rfl rfl (tg_87 S) (ln_87 S) (by omega) (by omega) rfl ?_
        refine p_ic_gt_f 90 rfl rfl (by omega) ?_
        refine p_iload 92 rfl rfl rfl ?_
        refine p_iload 94 rfl rfl rfl ?_
        refine p_ic_gt_f 97 rfl rfl (by omega) ?_
        refine p_iload 99 rfl rfl rfl ?_
        refine p_if_ne_f 102 rfl rfl (by decide) ?_
        refine p_aload 103 rfl rfl rfl ?_
        refine p_getfr (j := 37) (z := 92) 106 rfl rfl rfl (tg_66 S) rfl (fi_66_37 S) ?_
        refine p_iload 108 rfl rfl rfl ?_
        refine p_const 109 rfl rfl ?_
        refine p_isub (z := r - 1) 110 rfl rfl (w32_id ⟨(by omega), (by omega)⟩) ?_
        refine p_iald (w := 4) (z := gv h 92 (r - 1)) 111 rfl rfl (tg_92 S) (ln_92 S) (by omega) (by omega) rfl ?_
        refine p_aload 112 rfl rfl rfl ?_
        refine p_getfr (j := 37) (z := 92) 115 rfl rfl rfl (tg_66 S) rfl (fi_66_37 S) ?_
        refine p_iload 117 rfl rfl rfl ?_
        refine p_iald (w := 4) (z := gv h 92 k) 118 rfl rfl (tg_92 S) (ln_92 S) (by omega) (by omega) rfl ?_
        refine p_ic_ne 121 140 rfl rfl rfl (fun c1 => ?_) (fun c1 => ?_)
        · skip
          refine p_iinc (y := r + 1) (ls' := [some (.inr (.inr 66)), some (.inl s), some (.inl v), some (.inl u), some (.inl x), some (.inl k), some (.inl 0), some (.inl (r + 1))]) 143 rfl rfl rfl (w32_id ⟨(by omega), (by omega)⟩) rfl ?_
          refine p_goto 79 rfl rfl ?_
          -- leaf 1: loop 79 [some (.inr (.inr 66)), some (.inl s), some (.inl v), some (.inl u), some (.inl x), some (.inl k), some (.inl 0), some (.inl (r + 1))] st=[] h=h
          exact ih2 (r + 1) (by omega) (by omega) (nx1 (fun z => c1 (by rw [dr, dk]; exact z.2)))
        · skip
          refine p_iload 122 rfl rfl rfl ?_
          refine p_const 124 rfl rfl ?_
          refine p_iload 126 rfl rfl rfl ?_
          refine p_iadd (z := 26 + r) 127 rfl rfl (w32_id ⟨(by omega), (by omega)⟩) ?_
          refine p_ishr (z := u / 2 ^ (26 + r).toNat) 128 rfl rfl (by omega) (by omega) rfl ?_
          refine p_const 129 rfl rfl ?_
          refine p_iand (z := (u / 2 ^ (26 + r).toNat) % 2) 130 rfl rfl (mask32 1 rfl (by decide)) ?_
          refine p_if_ne 133 140 rfl rfl rfl (fun c2 => ?_) (fun c2 => ?_)
          · skip
            refine p_iinc (y := r + 1) (ls' := [some (.inr (.inr 66)), some (.inl s), some (.inl v), some (.inl u), some (.inl x), some (.inl k), some (.inl 0), some (.inl (r + 1))]) 143 rfl rfl rfl (w32_id ⟨(by omega), (by omega)⟩) rfl ?_
            refine p_goto 79 rfl rfl ?_
            -- leaf 2: loop 79 [some (.inr (.inr 66)), some (.inl s), some (.inl v), some (.inl u), some (.inl x), some (.inl k), some (.inl 0), some (.inl (r + 1))] st=[] h=h
            exact ih2 (r + 1) (by omega) (by omega) (nx1 (fun z => c2 z.1))
          · skip
            refine p_const 135 rfl rfl ?_
            refine p_iload 137 rfl rfl rfl ?_
            refine p_iadd (z := 26 + r) 138 rfl rfl (w32_id ⟨(by omega), (by omega)⟩) ?_
            refine p_istore (ls' := [some (.inr (.inr 66)), some (.inl s), some (.inl v), some (.inl u), some (.inl x), some (.inl k), some (.inl (26 + r)), some (.inl r)]) 140 rfl rfl (Nat.le_of_ble_eq_true rfl) rfl ?_
            refine p_iinc (y := r + 1) (ls' := [some (.inr (.inr 66)), some (.inl s), some (.inl v), some (.inl u), some (.inl x), some (.inl k), some (.inl (26 + r)), some (.inl (r + 1))]) 143 rfl rfl rfl (w32_id ⟨(by omega), (by omega)⟩) rfl ?_
            refine p_goto 79 rfl rfl ?_
            -- leaf 3: loop 79 [some (.inr (.inr 66)), some (.inl s), some (.inl v), some (.inl u), some (.inl x), some (.inl k), some (.inl (26 + r)), some (.inl (r + 1))] st=[] h=h
            exact in2 _ _ (by rw [hz]; unfold rp; rw [if_pos ⟨by assumption, by omega⟩]) (by omega)
    have st : ¬ (bit u (sg v (rl v) k) = 0 ∧ bit L (sg v (rl v) k - 1) = 0) → hs u v (rl v) k L R = rp u v (rl v) k (min R k).toNat 1 := fun z => by unfold hs; rw [if_neg z]
    refine p_iload 22 rfl rfl rfl ?_
    refine p_aload 23 rfl rfl rfl ?_
    refine p_getfi (j := 38) (z := gv h 66 38) 26 rfl rfl rfl (tg_66 S) rfl rfl ?_
    refine p_ic_ge_f 29 rfl rfl (by omega) ?_
    refine p_const 30 rfl rfl ?_
    refine p_istore (ls' := [some (.inr (.inr 66)), some (.inl s), some (.inl v), some (.inl u), some (.inl x), some (.inl k), some (.inl 0), w2]) 32 rfl rfl (Nat.le_of_ble_eq_true rfl) rfl ?_
    refine p_aload 33 rfl rfl rfl ?_
    refine p_getfr (j := 31) (z := 86) 36 rfl rfl rfl (tg_66 S) rfl (fi_66_31 S) ?_
    refine p_iload 37 rfl rfl rfl ?_
    refine p_iald (w := 10) (z := gv h 86 s) 38 rfl rfl (tg_86 S) (ln_86 S) (by omega) (by omega) rfl ?_
    refine p_aload 39 rfl rfl rfl ?_
    refine p_getfr (j := 37) (z := 92) 42 rfl rfl rfl (tg_66 S) rfl (fi_66_37 S) ?_
    refine p_iload 44 rfl rfl rfl ?_
    refine p_iald (w := 4) (z := gv h 92 k) 45 rfl rfl (tg_92 S) (ln_92 S) (by omega) (by omega) rfl ?_
    refine p_const 46 rfl rfl ?_
    refine p_isub (z := (gv h 92 k) - 1) 47 rfl rfl (w32_id ⟨(by omega), (by omega)⟩) ?_
    refine p_ishr (z := (gv h 86 s) / 2 ^ ((gv h 92 k) - 1).toNat) 48 rfl rfl (by omega) (by omega) rfl ?_
    refine p_const 49 rfl rfl ?_
    refine p_iand (z := ((gv h 86 s) / 2 ^ ((gv h 92 k) - 1).toNat) % 2) 50 rfl rfl (mask32 1 rfl (by decide)) ?_
    refine p_if_ne 53 76 rfl rfl rfl (fun c1 => ?_) (fun c1 => ?_)
    · skip
      refine p_const 77 rfl rfl ?_
      refine p_istore (ls' := [some (.inr (.inr 66)), some (.inl s), some (.inl v), some (.inl u), some (.inl x), some (.inl k), some (.inl 0), some (.inl 1)]) 79 rfl rfl (Nat.le_of_ble_eq_true rfl) rfl ?_
      -- leaf 1: loop 79 [some (.inr (.inr 66)), some (.inl s), some (.inl v), some (.inl u), some (.inl x), some (.inl k), some (.inl 0), some (.inl 1)] st=[] h=h
      exact in1 (min R k).toNat 1 (by omega) (Int.le_refl 1) (st (fun z => c1 (by rw [dk, hL]; exact z.2)))
    · skip
      refine p_iload 54 rfl rfl rfl ?_
      refine p_aload 55 rfl rfl rfl ?_
      refine p_getfr (j := 37) (z := 92) 58 rfl rfl rfl (tg_66 S) rfl (fi_66_37 S) ?_
      refine p_iload 60 rfl rfl rfl ?_
      refine p_iald (w := 4) (z := gv h 92 k) 61 rfl rfl (tg_92 S) (ln_92 S) (by omega) (by omega) rfl ?_
      refine p_ishr (z := u / 2 ^ (gv h 92 k).toNat) 62 rfl rfl (by omega) (by omega) rfl ?_
      refine p_const 63 rfl rfl ?_
      refine p_iand (z := (u / 2 ^ (gv h 92 k).toNat) % 2) 64 rfl rfl (mask32 1 rfl (by decide)) ?_
      refine p_if_ne 67 76 rfl rfl rfl (fun c2 => ?_) (fun c2 => ?_)
      · skip
        refine p_const 77 rfl rfl ?_
        refine p_istore (ls' := [some (.inr (.inr 66)), some (.inl s), some (.inl v), some (.inl u), some (.inl x), some (.inl k), some (.inl 0), some (.inl 1)]) 79 rfl rfl (Nat.le_of_ble_eq_true rfl) rfl ?_
        -- leaf 2: loop 79 [some (.inr (.inr 66)), some (.inl s), some (.inl v), some (.inl u), some (.inl x), some (.inl k), some (.inl 0), some (.inl 1)] st=[] h=h
        exact in1 (min R k).toNat 1 (by omega) (Int.le_refl 1) (st (fun z => c2 (by rw [dk]; exact z.1)))
      · skip
        refine p_aload 68 rfl rfl rfl ?_
        refine p_getfr (j := 37) (z := 92) 71 rfl rfl rfl (tg_66 S) rfl (fi_66_37 S) ?_
        refine p_iload 73 rfl rfl rfl ?_
        refine p_iald (w := 4) (z := gv h 92 k) 74 rfl rfl (tg_92 S) (ln_92 S) (by omega) (by omega) rfl ?_
        refine p_istore (ls' := [some (.inr (.inr 66)), some (.inl s), some (.inl v), some (.inl u), some (.inl x), some (.inl k), some (.inl (gv h 92 k)), w2]) 76 rfl rfl (Nat.le_of_ble_eq_true rfl) rfl ?_
        refine p_const 77 rfl rfl ?_
        refine p_istore (ls' := [some (.inr (.inr 66)), some (.inl s), some (.inl v), some (.inl u), some (.inl x), some (.inl k), some (.inl (gv h 92 k)), some (.inl 1)]) 79 rfl rfl (Nat.le_of_ble_eq_true rfl) rfl ?_
        -- leaf 3: loop 79 [some (.inr (.inr 66)), some (.inl s), some (.inl v), some (.inl u), some (.inl x), some (.inl k), some (.inl (gv h 92 k)), some (.inl 1)] st=[] h=h
        exact in2 _ _ (by unfold hs; rw [if_pos ⟨by rw [← dk]; assumption, by rw [← dk, ← hL]; assumption⟩]; exact dk) (by omega)
abbrev BendsR (v L R : Int) (h : PH) (r : Int) (h' : PH) : Prop := Keep spA h h' ∧ ((¬ letters v ∧ r = -1) ∨ (letters v ∧ HoistR v L R r))
theorem m_bends {d : Nat} {h : PH} {q : PQ} (S : Shape h) (s v : Int) (s0 : 0 ≤ s) (s1 : s < 10) (B : ∀ s, 0 ≤ s → s < 10 → 0 ≤ gv h 86 s ∧ gv h 86 s < 67108864 ∧ 0 ≤ gv h 87 s ∧ gv h 87 s ≤ 3)
    (K : ∀ r h', BendsR v (gv h 86 s) (gv h 87 s) h r h' → Shape h' → q (some (.inl r)) h') :
    Wp (d + 2) 0 0 M_X12_bends 0 [some (.inr (.inr 66)), some (.inl s), some (.inl v), none, none, none, none, none] [] h q := by
  have b := rl_in v
  obtain ⟨b1, b2, b3, b4⟩ := B s s0 s1
  refine p_aload 1 rfl rfl rfl ?_
  refine p_iload 2 rfl rfl rfl ?_
  refine p_const 4 rfl rfl ?_
  refine p_callv (le := [some (.inr (.inr 66)), some (.inl v), some (.inl 26), none, none]) (as := [.inr (.inr 66), .inl v, .inl 26]) (rest := []) 7 0 0 0 0 rfl rfl (Nat.le_of_ble_eq_true rfl) rfl (Nat.le_of_ble_eq_true rfl) rfl rfl (Nat.le_of_ble_eq_true rfl) rfl (Nat.le_of_ble_eq_true rfl) rfl (Nat.le_refl _) (Nat.le_refl _) rfl rfl (tg_66 S) ?_
  refine m_splits S v 26  (fun r1 y1 p1 S1 => ?_)
  show Wp (d + 2) 0 0 M_X12_bends 7 [some (.inr (.inr 66)), some (.inl s), some (.inl v), none, none, none, none, none] [.inl r1] y1 _
  refine p_if_ne 10 12 rfl rfl rfl (fun c2 => ?_) (fun c2 => ?_)
  · skip
    refine p_const 13 rfl rfl ?_
    refine p_istore (ls' := [some (.inr (.inr 66)), some (.inl s), some (.inl v), some (.inl 0), none, none, none, none]) 14 rfl rfl (Nat.le_of_ble_eq_true rfl) rfl ?_
    refine p_const 15 rfl rfl ?_
    refine p_istore (ls' := [some (.inr (.inr 66)), some (.inl s), some (.inl v), some (.inl 0), some (.inl 0), none, none, none]) 17 rfl rfl (Nat.le_of_ble_eq_true rfl) rfl ?_
    refine p_const 18 rfl rfl ?_
    refine p_istore (ls' := [some (.inr (.inr 66)), some (.inl s), some (.inl v), some (.inl 0), some (.inl 0), some (.inl 0), none, none]) 20 rfl rfl (Nat.le_of_ble_eq_true rfl) rfl ?_
    -- leaf 1: loop 20 [some (.inr (.inr 66)), some (.inl s), some (.inl v), some (.inl 0), some (.inl 0), some (.inl 0), none, none] st=[] h=y1
    obtain ⟨kp, ⟨z1, z2, z3, z4⟩ | ⟨z1, z2⟩⟩ := p1
    · exact m_bends_loop S1 s v _ _ s0 s1 (kp.1 86 s rfl) (kp.1 87 s rfl) b1 b2 b3 b4 z2 z3 z4 (fun r hr => K r _ ⟨kp, Or.inr ⟨⟨z2, fun k k0 k1 => (z4 k k0 k1).2⟩, hr⟩⟩ S1) (rl v).toNat 0 0 0 0 _ _ rfl (by omega) rfl rfl (fun j hj => by omega)
    · exact absurd z1 c2
  · skip
    refine p_const 11 rfl rfl ?_
    refine p_iret rfl rfl ?_
    -- leaf 2: answer [.inl (-1)] h=y1
    obtain ⟨kp, ⟨z1, z2, z3, z4⟩ | ⟨z1, z2⟩⟩ := p1
    · omega
    · refine K _ _ ⟨kp, Or.inl ⟨fun z => ?_, rfl⟩⟩ S1
      rcases z2 with z2 | ⟨k, k0, k1, z3⟩
      · have := z.1; omega
      · exact z3 (z.2 k k0 k1)
theorem m_hoist {d : Nat} {h : PH} {q : PQ} (S : Shape h) (s v : Int) (B : ∀ s, 0 ≤ s → s < 10 → 0 ≤ gv h 86 s ∧ gv h 86 s < 67108864 ∧ 0 ≤ gv h 87 s ∧ gv h 87 s ≤ 3)
    (K : ∀ r h', Keep spA h h' → HoistA s v (gv h 86 s) (gv h 87 s) r → Shape h' → q (some (.inl r)) h') :
    Wp (d + 4) 0 0 M_X12_hoist 0 [some (.inr (.inr 66)), some (.inl s), some (.inl v)] [] h q := by
  refine p_iload 1 rfl rfl rfl ?_
  refine p_calls (le := [some (.inl s)]) (as := [.inl s]) (rest := []) 4 0 0 0 0 rfl rfl (Nat.le_of_ble_eq_true rfl) rfl (Nat.le_of_ble_eq_true rfl) rfl rfl (Nat.le_of_ble_eq_true rfl) rfl (Nat.le_of_ble_eq_true rfl) rfl (Nat.le_refl _) (Nat.le_refl _) rfl rfl ?_
  refine p_iload 1 rfl rfl rfl ?_
  refine p_i2l 2 rfl rfl ?_
  refine p_lconst 3 rfl rfl ?_
  refine p_lconst 6 rfl rfl ?_
  refine p_calls (le := [some (.inr (.inl s)), none, some (.inr (.inl 0)), none, some (.inr (.inl 9)), none]) (as := [.inr (.inl s), .inr (.inl 0), .inr (.inl 9)]) (rest := []) 9 0 0 0 0 rfl rfl (Nat.le_of_ble_eq_true rfl) rfl (Nat.le_of_ble_eq_true rfl) rfl rfl (Nat.le_of_ble_eq_true rfl) rfl (Nat.le_of_ble_eq_true rfl) rfl (Nat.le_refl _) (Nat.le_refl _) rfl rfl ?_
  refine p_lload 1 rfl rfl rfl ?_
  refine p_lload 2 rfl rfl rfl ?_
  refine p_lc_lt 3 6 17 rfl rfl rfl rfl rfl (fun c1 => ?_) (fun c1 => ?_)
  · skip
    refine p_const 18 rfl rfl ?_
    refine p_zret rfl rfl (by decide) ?_
    show Wp (d + 3) 0 0 M_X12_isShip 9 [some (.inl s)] [.inl 0] h _
    refine p_zret rfl rfl (by decide) ?_
    show Wp (d + 4) 0 0 M_X12_hoist 4 [some (.inr (.inr 66)), some (.inl s), some (.inl v)] [.inl 0] h _
    refine p_if_eq_t 16 rfl rfl (by decide) ?_
    refine p_const 17 rfl rfl ?_
    refine p_iret rfl rfl ?_
    -- leaf 1: answer [.inl (-1)] h=h
    exact K _ _ (Keep.rf _ _) (Or.inl ⟨fun z => by have := z.1; omega, rfl⟩) S
  · skip
    refine p_lload 7 rfl rfl rfl ?_
    refine p_lload 9 rfl rfl rfl ?_
    refine p_lc_gt 10 13 17 rfl rfl rfl rfl rfl (fun c2 => ?_) (fun c2 => ?_)
    · skip
      refine p_const 18 rfl rfl ?_
      refine p_zret rfl rfl (by decide) ?_
      show Wp (d + 3) 0 0 M_X12_isShip 9 [some (.inl s)] [.inl 0] h _
      refine p_zret rfl rfl (by decide) ?_
      show Wp (d + 4) 0 0 M_X12_hoist 4 [some (.inr (.inr 66)), some (.inl s), some (.inl v)] [.inl 0] h _
      refine p_if_eq_t 16 rfl rfl (by decide) ?_
      refine p_const 17 rfl rfl ?_
      refine p_iret rfl rfl ?_
      -- leaf 2: answer [.inl (-1)] h=h
      exact K _ _ (Keep.rf _ _) (Or.inl ⟨fun z => by have := z.2.1; omega, rfl⟩) S
    · skip
      refine p_const 14 rfl rfl ?_
      refine p_goto 18 rfl rfl ?_
      refine p_zret rfl rfl (by decide) ?_
      show Wp (d + 3) 0 0 M_X12_isShip 9 [some (.inl s)] [.inl 1] h _
      refine p_zret rfl rfl (by decide) ?_
      show Wp (d + 4) 0 0 M_X12_hoist 4 [some (.inr (.inr 66)), some (.inl s), some (.inl v)] [.inl 1] h _
      refine p_if_eq_f 7 rfl rfl (by decide) ?_
      refine p_aload 8 rfl rfl rfl ?_
      refine p_iload 9 rfl rfl rfl ?_
      refine p_iload 10 rfl rfl rfl ?_
      refine p_callv (le := [some (.inr (.inr 66)), some (.inl s), some (.inl v), none, none, none, none, none]) (as := [.inr (.inr 66), .inl s, .inl v]) (rest := []) 13 0 0 0 0 rfl rfl (Nat.le_of_ble_eq_true rfl) rfl (Nat.le_of_ble_eq_true rfl) rfl rfl (Nat.le_of_ble_eq_true rfl) rfl (Nat.le_of_ble_eq_true rfl) rfl (Nat.le_refl _) (Nat.le_refl _) rfl rfl (tg_66 S) ?_
      refine m_bends S s v (by omega) (by omega) (B) (fun r3 y3 p3 S3 => ?_)
      show Wp (d + 4) 0 0 M_X12_hoist 13 [some (.inr (.inr 66)), some (.inl s), some (.inl v)] [.inl r3] y3 _
      refine p_goto 17 rfl rfl ?_
      refine p_iret rfl rfl ?_
      -- leaf 3: answer [.inl r3] h=y3
      exact p3.2.elim (fun z => K _ _ p3.1 (Or.inl ⟨fun y => z.1 y.2.2, z.2⟩) S3) (fun z => K _ _ p3.1 (Or.inr ⟨⟨by omega, by omega, z.1⟩, z.2⟩) S3)

