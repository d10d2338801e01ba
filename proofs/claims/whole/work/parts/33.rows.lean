/-! ROWS of signs: how long, which sign where -/
def rl (v : Int) : Int := if v ≤ 0 then 0 else if 1048576 ≤ v then 0 else if v < 32 then 1 else if v < 1024 then 2 else if v < 32768 then 3 else 4
def sg (v n k : Int) : Int := v / 2 ^ (5 * (n - 1 - k)).toNat % 32
theorem rl_in (v : Int) : 0 ≤ rl v ∧ rl v ≤ 4 := by unfold rl; (repeat' split) <;> omega
theorem rl_pos {v : Int} (h : 0 < rl v) : 0 < v ∧ v < 1048576 := by unfold rl at h; (repeat' split at h) <;> omega
theorem rl_zero {v : Int} (h : ¬ (0 < v ∧ v < 1048576)) : rl v = 0 := by unfold rl; (repeat' split) <;> omega
theorem rl_up {v : Int} (h : 0 < v) (h1 : v < 1048576) : rl v = rl (v / 32) + 1 := by unfold rl; (repeat' split) <;> omega
theorem sg_in (v n k : Int) : 0 ≤ sg v n k ∧ sg v n k < 32 := by unfold sg; omega
theorem sh5 {v m : Int} (h0 : 0 ≤ m) (h1 : m ≤ 4) : v / 2 ^ (5 * m).toNat / 32 = v / 2 ^ (5 * (m + 1)).toNat := by
  rcases (show m = 0 ∨ m = 1 ∨ m = 2 ∨ m = 3 ∨ m = 4 by omega) with rfl | rfl | rfl | rfl | rfl
  · show v / 1 / 32 = v / 32; omega
  · show v / 32 / 32 = v / 1024; omega
  · show v / 1024 / 32 = v / 32768; omega
  · show v / 32768 / 32 = v / 1048576; omega
  · show v / 1048576 / 32 = v / 33554432; omega
theorem all_up {k : Int} {P : Int → Prop} (a : ∀ j, 0 ≤ j → j < k → P j) (b : P k) : ∀ j, 0 ≤ j → j < k + 1 → P j := fun j j0 j1 => by
  by_cases z : j = k
  · rw [z]; exact b
  · exact a j j0 (by omega)
theorem x_rl {d : Nat} {h : PH} {q : PQ} (_S : Shape h) (v : Int) (K : q (some (.inl (rl v))) h) : Wp (d + 1) 0 0 M_X11_rowLength 0 [some (.inl v)] [] h q := by
  unfold rl at K
  refine p_iload 1 rfl rfl rfl ?_
  refine p_if_le 4 11 rfl rfl rfl (fun c1 => ?_) (fun c1 => ?_)
  · skip
    refine p_const 12 rfl rfl ?_
    refine p_iret rfl rfl ?_
    -- leaf 1: answer [.inl 0] h=h
    (repeat' split at K) <;> first | (exfalso; omega) | exact K
  · skip
    refine p_iload 5 rfl rfl rfl ?_
    refine p_const 8 rfl rfl ?_
    refine p_ic_lt 11 13 rfl rfl rfl (fun c2 => ?_) (fun c2 => ?_)
    · skip
      refine p_iload 14 rfl rfl rfl ?_
      refine p_const 17 rfl rfl ?_
      refine p_ic_ge 20 32 rfl rfl rfl (fun c3 => ?_) (fun c3 => ?_)
      · skip
        refine p_iload 33 rfl rfl rfl ?_
        refine p_const 36 rfl rfl ?_
        refine p_ic_ge 39 43 rfl rfl rfl (fun c4 => ?_) (fun c4 => ?_)
        · skip
          refine p_const 44 rfl rfl ?_
          refine p_iret rfl rfl ?_
          -- leaf 2: answer [.inl 4] h=h
          (repeat' split at K) <;> first | (exfalso; omega) | exact K
        · skip
          refine p_const 40 rfl rfl ?_
          refine p_goto 44 rfl rfl ?_
          refine p_iret rfl rfl ?_
          -- leaf 3: answer [.inl 3] h=h
          (repeat' split at K) <;> first | (exfalso; omega) | exact K
      · skip
        refine p_iload 21 rfl rfl rfl ?_
        refine p_const 23 rfl rfl ?_
        refine p_ic_ge 26 30 rfl rfl rfl (fun c5 => ?_) (fun c5 => ?_)
        · skip
          refine p_const 31 rfl rfl ?_
          refine p_iret rfl rfl ?_
          -- leaf 4: answer [.inl 2] h=h
          (repeat' split at K) <;> first | (exfalso; omega) | exact K
        · skip
          refine p_const 27 rfl rfl ?_
          refine p_goto 31 rfl rfl ?_
          refine p_iret rfl rfl ?_
          -- leaf 5: answer [.inl 1] h=h
          (repeat' split at K) <;> first | (exfalso; omega) | exact K
    · skip
      refine p_const 12 rfl rfl ?_
      refine p_iret rfl rfl ?_
      -- leaf 6: answer [.inl 0] h=h
      (repeat' split at K) <;> first | (exfalso; omega) | exact K
theorem x_sg {d : Nat} {h : PH} {q : PQ} (_S : Shape h) (v n k : Int) (n1 : 0 ≤ n) (n2 : n ≤ 6) (k0 : 0 ≤ k) (k1 : k < n) (K : q (some (.inl (sg v n k))) h) :
    Wp (d + 1) 0 0 M_X11_signAt 0 [some (.inl v), some (.inl n), some (.inl k)] [] h q := by
  unfold sg at K
  refine p_iload 1 rfl rfl rfl ?_
  refine p_const 2 rfl rfl ?_
  refine p_iload 3 rfl rfl rfl ?_
  refine p_const 4 rfl rfl ?_
  refine p_isub (z := n - 1) 5 rfl rfl (w32_id ⟨(by omega), (by omega)⟩) ?_
  refine p_iload 6 rfl rfl rfl ?_
  refine p_isub (z := (n - 1) - k) 7 rfl rfl (w32_id ⟨(by omega), (by omega)⟩) ?_
  refine p_imul (z := 5 * ((n - 1) - k)) 8 rfl rfl (w32_id ⟨(by omega), (by omega)⟩) ?_
  refine p_ishr (z := v / 2 ^ (5 * ((n - 1) - k)).toNat) 9 rfl rfl (by omega) (by omega) rfl ?_
  refine p_const 11 rfl rfl ?_
  refine p_iand (z := (v / 2 ^ (5 * ((n - 1) - k)).toNat) % 32) 12 rfl rfl (mask32 5 rfl (by decide)) ?_
  refine p_iret rfl rfl ?_
  -- leaf 1: answer [.inl ((v / 2 ^ (5 * ((n - 1) - k)).toNat) % 32)] h=h
  exact K
theorem x_isLetters_loop {d : Nat} {h : PH} {q : PQ} (S : Shape h) (v : Int)
    (K : ∀ r, ((0 < rl v ∧ ∀ k, 0 ≤ k → k < rl v → 1 ≤ sg v (rl v) k ∧ sg v (rl v) k ≤ 26) ∧ r = 1) ∨ ((¬ (0 < rl v ∧ ∀ k, 0 ≤ k → k < rl v → 1 ≤ sg v (rl v) k ∧ sg v (rl v) k ≤ 26)) ∧ r = 0) → q (some (.inl r)) h) :
    ∀ (c : Nat) (k : Int) (w : Option PV), k + c = rl v → 0 ≤ k → (∀ j, 0 ≤ j → j < k → 1 ≤ sg v (rl v) j ∧ sg v (rl v) j ≤ 26) → Wp (d + 2) 0 0 M_X11_isLetters 7 [some (.inl v), some (.inl (rl v)), some (.inl k), w] [] h q := by
  intro c
  have b := rl_in v
  induction c with
  | zero =>
    intro k w hk k0 ho
    refine p_iload 8 rfl rfl rfl ?_
    refine p_iload 9 rfl rfl rfl ?_
    refine p_ic_ge_t 38 rfl rfl (by omega) ?_
    refine p_iload 39 rfl rfl rfl ?_
    refine p_if_le 42 46 rfl rfl rfl (fun c1 => ?_) (fun c1 => ?_)
    · skip
      refine p_const 47 rfl rfl ?_
      refine p_zret rfl rfl (by decide) ?_
      -- leaf 1: answer [.inl 0] h=h
      exact K _ (Or.inr ⟨fun z => by omega, rfl⟩)
    · skip
      refine p_const 43 rfl rfl ?_
      refine p_goto 47 rfl rfl ?_
      refine p_zret rfl rfl (by decide) ?_
      -- leaf 2: answer [.inl 1] h=h
      exact K _ (Or.inl ⟨⟨by omega, fun j j0 j1 => ho j j0 (by omega)⟩, rfl⟩)
  | succ c ih =>
    intro k w hk k0 ho
    refine p_iload 8 rfl rfl rfl ?_
    refine p_iload 9 rfl rfl rfl ?_
    refine p_ic_ge_f 12 rfl rfl (by omega) ?_
    refine p_iload 13 rfl rfl rfl ?_
    refine p_iload 14 rfl rfl rfl ?_
    refine p_iload 15 rfl rfl rfl ?_
    refine p_calls (le := [some (.inl v), some (.inl (rl v)), some (.inl k)]) (as := [.inl v, .inl (rl v), .inl k]) (rest := []) 18 0 0 0 0 rfl rfl (Nat.le_of_ble_eq_true rfl) rfl (Nat.le_of_ble_eq_true rfl) rfl rfl (Nat.le_of_ble_eq_true rfl) rfl (Nat.le_of_ble_eq_true rfl) rfl (Nat.le_refl _) (Nat.le_refl _) rfl rfl ?_
    refine x_sg S v (rl v) k (by omega) (by omega) (by omega) (by omega) ?_
    show Wp (d + 2) 0 0 M_X11_isLetters 18 [some (.inl v), some (.inl (rl v)), some (.inl k), w] [.inl (sg v (rl v) k)] h _
    refine p_istore (ls' := [some (.inl v), some (.inl (rl v)), some (.inl k), some (.inl (sg v (rl v) k))]) 19 rfl rfl (Nat.le_of_ble_eq_true rfl) rfl ?_
    refine p_iload 20 rfl rfl rfl ?_
    refine p_const 21 rfl rfl ?_
    refine p_ic_lt 24 30 rfl rfl rfl (fun c1 => ?_) (fun c1 => ?_)
    · skip
      refine p_const 31 rfl rfl ?_
      refine p_zret rfl rfl (by decide) ?_
      -- leaf 1: answer [.inl 0] h=h
      exact K _ (Or.inr ⟨fun z => by have := z.2 k k0 (by omega); omega, rfl⟩)
    · skip
      refine p_iload 25 rfl rfl rfl ?_
      refine p_const 27 rfl rfl ?_
      refine p_ic_le 30 32 rfl rfl rfl (fun c2 => ?_) (fun c2 => ?_)
      · skip
        refine p_iinc (y := k + 1) (ls' := [some (.inl v), some (.inl (rl v)), some (.inl (k + 1)), some (.inl (sg v (rl v) k))]) 35 rfl rfl rfl (w32_id ⟨(by omega), (by omega)⟩) rfl ?_
        refine p_goto 7 rfl rfl ?_
        -- leaf 2: loop 7 [some (.inl v), some (.inl (rl v)), some (.inl (k + 1)), some (.inl (sg v (rl v) k))] st=[] h=h
        exact ih (k + 1) _ (by omega) (by omega) (all_up ho ⟨by omega, by omega⟩)
      · skip
        refine p_const 31 rfl rfl ?_
        refine p_zret rfl rfl (by decide) ?_
        -- leaf 3: answer [.inl 0] h=h
        exact K _ (Or.inr ⟨fun z => by have := z.2 k k0 (by omega); omega, rfl⟩)
theorem x_isLetters {d : Nat} {h : PH} {q : PQ} (S : Shape h) (v : Int)
    (K : ∀ r, ((0 < rl v ∧ ∀ k, 0 ≤ k → k < rl v → 1 ≤ sg v (rl v) k ∧ sg v (rl v) k ≤ 26) ∧ r = 1) ∨ ((¬ (0 < rl v ∧ ∀ k, 0 ≤ k → k < rl v → 1 ≤ sg v (rl v) k ∧ sg v (rl v) k ≤ 26)) ∧ r = 0) → q (some (.inl r)) h) :
    Wp (d + 2) 0 0 M_X11_isLetters 0 [some (.inl v), none, none, none] [] h q := by
  have b := rl_in v
  refine p_iload 1 rfl rfl rfl ?_
  refine p_calls (le := [some (.inl v)]) (as := [.inl v]) (rest := []) 4 0 0 0 0 rfl rfl (Nat.le_of_ble_eq_true rfl) rfl (Nat.le_of_ble_eq_true rfl) rfl rfl (Nat.le_of_ble_eq_true rfl) rfl (Nat.le_of_ble_eq_true rfl) rfl (Nat.le_refl _) (Nat.le_refl _) rfl rfl ?_
  refine x_rl S v  ?_
  show Wp (d + 2) 0 0 M_X11_isLetters 4 [some (.inl v), none, none, none] [.inl (rl v)] h _
  refine p_istore (ls' := [some (.inl v), some (.inl (rl v)), none, none]) 5 rfl rfl (Nat.le_of_ble_eq_true rfl) rfl ?_
  refine p_const 6 rfl rfl ?_
  refine p_istore (ls' := [some (.inl v), some (.inl (rl v)), some (.inl 0), none]) 7 rfl rfl (Nat.le_of_ble_eq_true rfl) rfl ?_
  -- leaf 1: loop 7 [some (.inl v), some (.inl (rl v)), some (.inl 0), none] st=[] h=h
  exact x_isLetters_loop S v K (rl v).toNat 0 _ (by omega) (Int.le_refl 0) (fun j j0 j1 => by omega)
def spA (a i : Int) : Bool := (a == 66 && i == 38) || a == 92
theorem spA_d {i : Int} : spA 92 i = true := by unfold spA; exact Bool.or_true _
abbrev SplR (v most : Int) (h : PH) (r : Int) (h' : PH) : Prop := Keep spA h h' ∧
  ((r = 1 ∧ 0 < rl v ∧ gv h' 66 38 = rl v ∧ ∀ k, 0 ≤ k → k < rl v → gv h' 92 k = sg v (rl v) k ∧ 1 ≤ sg v (rl v) k ∧ sg v (rl v) k ≤ most) ∨
   (r = 0 ∧ (rl v = 0 ∨ ∃ k, 0 ≤ k ∧ k < rl v ∧ ¬ (1 ≤ sg v (rl v) k ∧ sg v (rl v) k ≤ most))))
theorem m_splits2 {d : Nat} {h : PH} {q : PQ} (v most : Int) (v0 : 0 < rl v) (K : ∀ r h', SplR v most h r h' → Shape h' → q (some (.inl r)) h') :
    ∀ (c : Nat) (k z : Int) (h1 : PH), k + 1 = c → k < rl v → z = v / 2 ^ (5 * (rl v - 1 - k)).toNat → 0 ≤ z → z < 1048576 → Shape h1 → Keep spA h h1 → gv h1 66 38 = rl v →
      (∀ j, k < j → j < rl v → gv h1 92 j = sg v (rl v) j ∧ 1 ≤ sg v (rl v) j ∧ sg v (rl v) j ≤ most) →
      Wp (d + 1) 0 0 M_X12_splits 52 [some (.inr (.inr 66)), some (.inl v), some (.inl most), some (.inl z), some (.inl k)] [] h1 q := by
  intro c
  have b := rl_in v
  induction c with
  | zero =>
    intro k z h1 hk kn hz z0 z1 S kp hd hj
    refine p_iload 54 rfl rfl rfl ?_
    refine p_if_lt_t 102 rfl rfl (by omega) ?_
    refine p_const 103 rfl rfl ?_
    refine p_zret rfl rfl (by decide) ?_
    -- leaf 1: answer [.inl 1] h=h1
    exact K 1 h1 ⟨kp, Or.inl ⟨rfl, v0, hd, fun j j0 j1 => hj j (by omega) j1⟩⟩ S
  | succ c ih =>
    intro k z h1 hk kn hz z0 z1 S kp hd hj
    have zs : z % 32 = sg v (rl v) k := by rw [hz]; rfl
    have zn : z / 32 = v / 2 ^ (5 * (rl v - 1 - (k - 1))).toNat := by rw [hz, sh5 (by omega) (by omega), show rl v - 1 - k + 1 = rl v - 1 - (k - 1) by omega]
    refine p_iload 54 rfl rfl rfl ?_
    refine p_if_lt_f 57 rfl rfl (by omega) ?_
    refine p_aload 58 rfl rfl rfl ?_
    refine p_getfr (j := 37) (z := 92) 61 rfl rfl rfl (tg_66 S) rfl (fi_66_37 S) ?_
    refine p_iload 63 rfl rfl rfl ?_
    refine p_iload 64 rfl rfl rfl ?_
    refine p_const 66 rfl rfl ?_
    refine p_irem (z := z % 32) 67 rfl rfl (by decide) (rm_id (by omega) (by omega)) ?_
    refine p_iast (w := 4) 68 rfl rfl (by decide) (tg_92 S) (ln_92 S) (by omega) (by omega) ?_
    refine p_nmh (fun y1 e1 => ?_)
    have S1 : Shape y1 := by rw [e1]; exact S.svA fa_92 _ _
    refine p_aload 69 rfl rfl rfl ?_
    refine p_getfr (j := 37) (z := 92) 72 rfl rfl rfl (tg_66 S1) rfl (fi_66_37 S1) ?_
    refine p_iload 74 rfl rfl rfl ?_
    refine p_iald (w := 4) (z := z % 32) 75 rfl rfl (tg_92 S1) (ln_92 S1) (by omega) (by omega) (by rw [e1]; exact sv_eq _ _ _ _) ?_
    refine p_if_eq 78 89 rfl rfl rfl (fun c2 => ?_) (fun c2 => ?_)
    · skip
      refine p_const 90 rfl rfl ?_
      refine p_zret rfl rfl (by decide) ?_
      -- leaf 1: answer [.inl 0] h=y1
      exact K 0 _ ⟨by rw [e1]; exact kp.sv spA_d _, Or.inr ⟨rfl, Or.inr ⟨k, by omega, kn, by omega⟩⟩⟩ (by assumption)
    · skip
      refine p_aload 79 rfl rfl rfl ?_
      refine p_getfr (j := 37) (z := 92) 82 rfl rfl rfl (tg_66 S1) rfl (fi_66_37 S1) ?_
      refine p_iload 84 rfl rfl rfl ?_
      refine p_iald (w := 4) (z := z % 32) 85 rfl rfl (tg_92 S1) (ln_92 S1) (by omega) (by omega) (by rw [e1]; exact sv_eq _ _ _ _) ?_
      refine p_iload 86 rfl rfl rfl ?_
      refine p_ic_le 89 91 rfl rfl rfl (fun c3 => ?_) (fun c3 => ?_)
      · skip
        refine p_iload 92 rfl rfl rfl ?_
        refine p_const 94 rfl rfl ?_
        refine p_idiv (z := z / 32) 95 rfl rfl (by decide) (dv32_id (by omega) (by omega) (by omega)) ?_
        refine p_istore (ls' := [some (.inr (.inr 66)), some (.inl v), some (.inl most), some (.inl (z / 32)), some (.inl k)]) 96 rfl rfl (Nat.le_of_ble_eq_true rfl) rfl ?_
        refine p_iinc (y := k - 1) (ls' := [some (.inr (.inr 66)), some (.inl v), some (.inl most), some (.inl (z / 32)), some (.inl (k - 1))]) 99 rfl rfl rfl (wsub_id ⟨(by omega), (by omega)⟩) rfl ?_
        refine p_goto 52 rfl rfl ?_
        -- leaf 2: loop 52 [some (.inr (.inr 66)), some (.inl v), some (.inl most), some (.inl (z / 32)), some (.inl (k - 1))] st=[] h=y1
        refine ih (k - 1) _ _ (by omega) (by omega) zn (by omega) (by omega) (by assumption) (by rw [e1]; exact kp.sv spA_d _) (by rw [e1, sv_ne (by decide)]; exact hd) ?_
        intro j j0 j1
        by_cases y : j = k
        · rw [y, e1, sv_eq, zs]; omega
        · rw [e1, sv_nf y]; exact hj j (by omega) j1
      · skip
        refine p_const 90 rfl rfl ?_
        refine p_zret rfl rfl (by decide) ?_
        -- leaf 3: answer [.inl 0] h=y1
        exact K 0 _ ⟨by rw [e1]; exact kp.sv spA_d _, Or.inr ⟨rfl, Or.inr ⟨k, by omega, kn, by omega⟩⟩⟩ (by assumption)
theorem m_splits1 {d : Nat} {h : PH} {q : PQ} (v most : Int) (v0 : 0 < v) (v1 : v < 1048576) (K : ∀ r h', SplR v most h r h' → Shape h' → q (some (.inl r)) h') :
    ∀ (c : Nat) (z : Int) (w : Option PV) (h1 : PH), rl z = c → 0 ≤ z → z < 1048576 → Shape h1 → Keep spA h h1 → gv h1 66 38 + rl z = rl v →
      0 ≤ gv h1 66 38 → Wp (d + 1) 0 0 M_X12_splits 20 [some (.inr (.inr 66)), some (.inl v), some (.inl most), some (.inl z), w] [] h1 q := by
  intro c
  have b := rl_in v
  have vp : 0 < rl v := by have := rl_up v0 v1; have := rl_in (v / 32); omega
  induction c with
  | zero =>
    intro z w h1 hc z0 z1 S kp hd d0
    have zz : z ≤ 0 := by apply Decidable.byContradiction; intro y; have := rl_up (v := z) (by omega) z1; have := rl_in (z / 32); omega
    have dd : gv h1 66 38 = rl v := by omega
    refine p_iload 21 rfl rfl rfl ?_
    refine p_if_le_t 42 rfl rfl (by omega) ?_
    refine p_iload 43 rfl rfl rfl ?_
    refine p_istore (ls' := [some (.inr (.inr 66)), some (.inl v), some (.inl most), some (.inl v), w]) 44 rfl rfl (Nat.le_of_ble_eq_true rfl) rfl ?_
    refine p_aload 45 rfl rfl rfl ?_
    refine p_getfi (j := 38) (z := gv h1 66 38) 48 rfl rfl rfl (tg_66 S) rfl rfl ?_
    refine p_const 49 rfl rfl ?_
    refine p_isub (z := (gv h1 66 38) - 1) 50 rfl rfl (w32_id ⟨(by omega), (by omega)⟩) ?_
    refine p_istore (ls' := [some (.inr (.inr 66)), some (.inl v), some (.inl most), some (.inl v), some (.inl ((gv h1 66 38) - 1))]) 52 rfl rfl (Nat.le_of_ble_eq_true rfl) rfl ?_
    -- leaf 1: loop 52 [some (.inr (.inr 66)), some (.inl v), some (.inl most), some (.inl v), some (.inl ((gv h1 66 38) - 1))] st=[] h=h1
    exact m_splits2 v most vp K (rl v).toNat _ _ _ (by omega) (by omega) (by rw [dd, show rl v - 1 - (rl v - 1) = 0 by omega]; show v = v / 1; omega) (by omega) v1 S kp dd (fun j j0 j1 => by omega)
  | succ c ih =>
    intro z w h1 hc z0 z1 S kp hd d0
    have zp : 0 < z := by apply Decidable.byContradiction; intro y; have := rl_zero (v := z) (by omega); omega
    have zu := rl_up zp z1
    have zi := rl_in (z / 32)
    refine p_iload 21 rfl rfl rfl ?_
    refine p_if_le_f 24 rfl rfl (by omega) ?_
    refine p_aload 25 rfl rfl rfl ?_
    refine p_dup 26 rfl rfl nl_r ?_
    refine p_getfi (j := 38) (z := gv h1 66 38) 29 rfl rfl rfl (tg_66 S) rfl rfl ?_
    refine p_const 30 rfl rfl ?_
    refine p_iadd (z := (gv h1 66 38) + 1) 31 rfl rfl (w32_id ⟨(by omega), (by omega)⟩) ?_
    refine p_putfi (j := 38) 34 rfl rfl rfl (fun z => absurd z (by decide)) (tg_66 S) rfl ?_
    refine p_nmh (fun y1 e1 => ?_)
    have S1 : Shape y1 := by rw [e1]; exact S.svF ff_66_38 _
    refine p_iload 35 rfl rfl rfl ?_
    refine p_const 37 rfl rfl ?_
    refine p_idiv (z := z / 32) 38 rfl rfl (by decide) (dv32_id (by omega) (by omega) (by omega)) ?_
    refine p_istore (ls' := [some (.inr (.inr 66)), some (.inl v), some (.inl most), some (.inl (z / 32)), w]) 39 rfl rfl (Nat.le_of_ble_eq_true rfl) rfl ?_
    refine p_goto 20 rfl rfl ?_
    -- leaf 1: loop 20 [some (.inr (.inr 66)), some (.inl v), some (.inl most), some (.inl (z / 32)), w] st=[] h=y1
    exact ih _ _ _ (by omega) (by omega) (by omega) (by assumption) (by rw [e1]; exact kp.sv rfl _) (by rw [e1, sv_eq]; omega) (by rw [e1, sv_eq]; omega)
theorem m_splits {d : Nat} {h : PH} {q : PQ} (S : Shape h) (v most : Int) (K : ∀ r h', SplR v most h r h' → Shape h' → q (some (.inl r)) h') :
    Wp (d + 1) 0 0 M_X12_splits 0 [some (.inr (.inr 66)), some (.inl v), some (.inl most), none, none] [] h q := by
  refine p_aload 1 rfl rfl rfl ?_
  refine p_const 2 rfl rfl ?_
  refine p_putfi (j := 38) 5 rfl rfl rfl (fun z => absurd z (by decide)) (tg_66 S) rfl ?_
  refine p_nmh (fun y1 e1 => ?_)
  have S1 : Shape y1 := by rw [e1]; exact S.svF ff_66_38 _
  refine p_iload 6 rfl rfl rfl ?_
  refine p_if_le 9 16 rfl rfl rfl (fun c2 => ?_) (fun c2 => ?_)
  · skip
    refine p_const 17 rfl rfl ?_
    refine p_zret rfl rfl (by decide) ?_
    -- leaf 1: answer [.inl 0] h=y1
    exact K 0 _ ⟨by rw [e1]; exact (Keep.rf spA h).sv rfl _, Or.inr ⟨rfl, Or.inl (rl_zero (by omega))⟩⟩ S1
  · skip
    refine p_iload 10 rfl rfl rfl ?_
    refine p_const 13 rfl rfl ?_
    refine p_ic_lt 16 18 rfl rfl rfl (fun c3 => ?_) (fun c3 => ?_)
    · skip
      refine p_iload 19 rfl rfl rfl ?_
      refine p_istore (ls' := [some (.inr (.inr 66)), some (.inl v), some (.inl most), some (.inl v), none]) 20 rfl rfl (Nat.le_of_ble_eq_true rfl) rfl ?_
      -- leaf 2: loop 20 [some (.inr (.inr 66)), some (.inl v), some (.inl most), some (.inl v), none] st=[] h=y1
      refine m_splits1 v most (by omega) (by omega) K (rl v).toNat v none _ (by have := rl_in v; omega) (by omega) (by omega) S1 (by rw [e1]; exact (Keep.rf spA h).sv rfl _) (by rw [e1, sv_eq]; omega) (by rw [e1, sv_eq]; omega)
    · skip
      refine p_const 17 rfl rfl ?_
      refine p_zret rfl rfl (by decide) ?_
      -- leaf 3: answer [.inl 0] h=y1
      exact K 0 _ ⟨by rw [e1]; exact (Keep.rf spA h).sv rfl _, Or.inr ⟨rfl, Or.inl (rl_zero (by omega))⟩⟩ S1

