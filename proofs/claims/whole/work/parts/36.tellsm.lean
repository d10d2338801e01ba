/-! TELLS: the model's side -/
def hoA (a i : Int) : Bool := spA a i || a == 93
theorem hoA_d {i : Int} : hoA 93 i = true := by unfold hoA; exact Bool.or_true _
theorem hoA_w : ∀ a i, hoA a i = false → spA a i = false := fun a i z => by unfold hoA at z; exact (Bool.or_eq_false_iff.mp z).1
abbrev HoR (v : Int) (h : PH) (r : Int) (h' : PH) : Prop := Keep hoA h h' ∧ ((r = 1 ∧ isHo v ∧ gv h' 66 38 = rl v ∧ ∀ j : Nat, (j : Int) < rl v → gv h' 92 j = sg v (rl v) j ∧ gv h' 93 j = lt v (rl v) j) ∨ (r = 0 ∧ ¬ isHo v))
theorem m_isHo_loop {d : Nat} {h : PH} {q : PQ} (v : Int) (vp : 0 < rl v) (K : ∀ r h', HoR v h r h' → Shape h' → q (some (.inl r)) h') :
    ∀ (c kk : Nat) (k : Int) (w : Option PV) (h1 : PH), k = kk → k + c = rl v → Shape h1 → Keep hoA h h1 → gv h1 66 38 = rl v → (∀ j, 0 ≤ j → j < rl v → gv h1 92 j = sg v (rl v) j ∧ 1 ≤ sg v (rl v) j ∧ sg v (rl v) j ≤ 29) →
      (∀ j : Nat, j < kk → gv h1 93 j = lt v (rl v) j) → (∀ j, 0 ≤ j → j < k → good v (rl v) j) →
      Wp (d + 2) 0 0 M_X12_isHoist 14 [some (.inr (.inr 66)), some (.inl v), some (.inl k), w] [] h1 q := by
  intro c
  have b := rl_in v
  induction c with
  | zero =>
    intro kk k w h1 hk hc S kp hd hj hl hg
    refine p_iload 15 rfl rfl rfl ?_
    refine p_aload 16 rfl rfl rfl ?_
    refine p_getfi (j := 38) (z := gv h1 66 38) 19 rfl rfl rfl (tg_66 S) rfl rfl ?_
    refine p_ic_ge_t 102 rfl rfl (by omega) ?_
    refine p_const 103 rfl rfl ?_
    refine p_zret rfl rfl (by decide) ?_
    -- leaf 1: answer [.inl 1] h=h1
    exact K 1 h1 ⟨kp, Or.inl ⟨rfl, ⟨vp, fun j j0 j1 => hg j j0 (by omega)⟩, hd, fun j j1 => ⟨(hj j (by omega) j1).1, hl j (by omega)⟩⟩⟩ S
  | succ c ih =>
    intro kk k w h1 hk hc S kp hd hj hl hg
    have k0 : 0 ≤ k := by omega
    have k1 : k < rl v := by omega
    have dk := hj k k0 k1
    have inner : ∀ (c2 : Nat) (i : Int), i + c2 = k → 0 ≤ i → (∀ j, 0 ≤ j → j < i → sg v (rl v) j ≠ sg v (rl v) k) → Wp (d + 2) 0 0 M_X12_isHoist 24 [some (.inr (.inr 66)), some (.inl v), some (.inl k), some (.inl i)] [] h1 q := by
      intro c2
      induction c2 with
      | zero =>
        intro i hi i0 hs
        have hs' : ∀ j, 0 ≤ j → j < k → sg v (rl v) j ≠ sg v (rl v) k := fun j j0 j1 => hs j j0 (by omega)
        have fin : ∀ (y : Int) (h2 : PH) (a : Option PV), sg v (rl v) k - 26 ≤ k → y = lt v (rl v) kk → h2 = sv h1 93 k y → Shape h2 → Wp (d + 2) 0 0 M_X12_isHoist 14 [some (.inr (.inr 66)), some (.inl v), some (.inl (k + 1)), a] [] h2 q := by
          intro y h2 a g1 hy e S2
          refine ih (kk + 1) (k + 1) a h2 (by omega) (by omega) S2 (by rw [e]; exact kp.sv hoA_d _) (by rw [e, sv_ne (by decide)]; exact hd) (fun j j0 j1 => by rw [e, sv_ne (by decide)]; exact hj j j0 j1) ?_ (all_up hg ⟨dk.2.1, dk.2.2, g1, hs'⟩)
          intro j hjj
          by_cases z : j = kk
          · rw [e, z, ← hk, sv_eq, hy]
          · rw [e, sv_nf (by omega)]; exact hl j (by omega)
        refine p_iload 25 rfl rfl rfl ?_
        refine p_iload 26 rfl rfl rfl ?_
        refine p_ic_ge_t 52 rfl rfl (by omega) ?_
        refine p_aload 53 rfl rfl rfl ?_
        refine p_getfr (j := 37) (z := 92) 56 rfl rfl rfl (tg_66 S) rfl (fi_66_37 S) ?_
        refine p_iload 57 rfl rfl rfl ?_
        refine p_iald (w := 4) (z := gv h1 92 k) 58 rfl rfl (tg_92 S) (ln_92 S) (by omega) (by omega) rfl ?_
        refine p_const 60 rfl rfl ?_
        refine p_isub (z := (gv h1 92 k) - 26) 61 rfl rfl (w32_id ⟨(by omega), (by omega)⟩) ?_
        refine p_istore (ls' := [some (.inr (.inr 66)), some (.inl v), some (.inl k), some (.inl ((gv h1 92 k) - 26))]) 62 rfl rfl (Nat.le_of_ble_eq_true rfl) rfl ?_
        refine p_iload 63 rfl rfl rfl ?_
        refine p_iload 64 rfl rfl rfl ?_
        refine p_ic_le 67 69 rfl rfl rfl (fun c1 => ?_) (fun c1 => ?_)
        · skip
          refine p_aload 70 rfl rfl rfl ?_
          refine p_getfr (j := 39) (z := 93) 73 rfl rfl rfl (tg_66 S) rfl (fi_66_39 S) ?_
          refine p_iload 74 rfl rfl rfl ?_
          refine p_iload 75 rfl rfl rfl ?_
          refine p_if_le 78 89 rfl rfl rfl (fun c2 => ?_) (fun c2 => ?_)
          · skip
            refine p_aload 90 rfl rfl rfl ?_
            refine p_getfr (j := 37) (z := 92) 93 rfl rfl rfl (tg_66 S) rfl (fi_66_37 S) ?_
            refine p_iload 94 rfl rfl rfl ?_
            refine p_iald (w := 4) (z := gv h1 92 k) 95 rfl rfl (tg_92 S) (ln_92 S) (by omega) (by omega) rfl ?_
            refine p_iast (w := 4) 96 rfl rfl (by decide) (tg_93 S) (ln_93 S) (by omega) (by omega) ?_
            refine p_nmh (fun y3 e3 => ?_)
            have S3 : Shape y3 := by rw [e3]; exact S.svA fa_93 _ _
            refine p_iinc (y := k + 1) (ls' := [some (.inr (.inr 66)), some (.inl v), some (.inl (k + 1)), some (.inl ((gv h1 92 k) - 26))]) 99 rfl rfl rfl (w32_id ⟨(by omega), (by omega)⟩) rfl ?_
            refine p_goto 14 rfl rfl ?_
            -- leaf 1: loop 14 [some (.inr (.inr 66)), some (.inl v), some (.inl (k + 1)), some (.inl ((gv h1 92 k) - 26))] st=[] h=y3
            exact fin _ _ _ (by omega) (by rw [dk.1]; unfold lt; rw [← hk, if_pos (by omega)]) e3 (by assumption)
          · skip
            refine p_aload 79 rfl rfl rfl ?_
            refine p_getfr (j := 39) (z := 93) 82 rfl rfl rfl (tg_66 S) rfl (fi_66_39 S) ?_
            refine p_iload 83 rfl rfl rfl ?_
            refine p_const 84 rfl rfl ?_
            refine p_isub (z := ((gv h1 92 k) - 26) - 1) 85 rfl rfl (w32_id ⟨(by omega), (by omega)⟩) ?_
            refine p_iald (w := 4) (z := gv h1 93 (((gv h1 92 k) - 26) - 1)) 86 rfl rfl (tg_93 S) (ln_93 S) (by omega) (by omega) rfl ?_
            refine p_goto 95 rfl rfl ?_
            refine p_iast (w := 4) 96 rfl rfl (by decide) (tg_93 S) (ln_93 S) (by omega) (by omega) ?_
            refine p_nmh (fun y4 e4 => ?_)
            have S4 : Shape y4 := by rw [e4]; exact S.svA fa_93 _ _
            refine p_iinc (y := k + 1) (ls' := [some (.inr (.inr 66)), some (.inl v), some (.inl (k + 1)), some (.inl ((gv h1 92 k) - 26))]) 99 rfl rfl rfl (w32_id ⟨(by omega), (by omega)⟩) rfl ?_
            refine p_goto 14 rfl rfl ?_
            -- leaf 2: loop 14 [some (.inr (.inr 66)), some (.inl v), some (.inl (k + 1)), some (.inl ((gv h1 92 k) - 26))] st=[] h=y4
            exact fin _ _ _ (by omega) (by
            have hh := hl (sg v (rl v) k - 26 - 1).toNat (by omega)
            have h2 := sg_lv v (rl v) kk (by omega) (sg v (rl v) k - 26 - 1).toNat (by omega)
            rw [Int.toNat_of_nonneg (by omega)] at hh h2
            rw [dk.1, hh, ← h2]; unfold lt; rw [← hk, if_neg (by omega)]) e4 (by assumption)
        · skip
          refine p_const 68 rfl rfl ?_
          refine p_zret rfl rfl (by decide) ?_
          -- leaf 3: answer [.inl 0] h=h1
          exact K 0 h1 ⟨kp, Or.inr ⟨rfl, noHo k0 k1 (fun g => by have := g.2.2.1; omega)⟩⟩ S
      | succ c2 ih2 =>
        intro i hi i0 hs
        have di := hj i i0 (by omega)
        refine p_iload 25 rfl rfl rfl ?_
        refine p_iload 26 rfl rfl rfl ?_
        refine p_ic_ge_f 29 rfl rfl (by omega) ?_
        refine p_aload 30 rfl rfl rfl ?_
        refine p_getfr (j := 37) (z := 92) 33 rfl rfl rfl (tg_66 S) rfl (fi_66_37 S) ?_
        refine p_iload 34 rfl rfl rfl ?_
        refine p_iald (w := 4) (z := gv h1 92 i) 35 rfl rfl (tg_92 S) (ln_92 S) (by omega) (by omega) rfl ?_
        refine p_aload 36 rfl rfl rfl ?_
        refine p_getfr (j := 37) (z := 92) 39 rfl rfl rfl (tg_66 S) rfl (fi_66_37 S) ?_
        refine p_iload 40 rfl rfl rfl ?_
        refine p_iald (w := 4) (z := gv h1 92 k) 41 rfl rfl (tg_92 S) (ln_92 S) (by omega) (by omega) rfl ?_
        refine p_ic_ne 44 46 rfl rfl rfl (fun c1 => ?_) (fun c1 => ?_)
        · skip
          refine p_iinc (y := i + 1) (ls' := [some (.inr (.inr 66)), some (.inl v), some (.inl k), some (.inl (i + 1))]) 49 rfl rfl rfl (w32_id ⟨(by omega), (by omega)⟩) rfl ?_
          refine p_goto 24 rfl rfl ?_
          -- leaf 1: loop 24 [some (.inr (.inr 66)), some (.inl v), some (.inl k), some (.inl (i + 1))] st=[] h=h1
          exact ih2 (i + 1) (by omega) (by omega) (all_up hs (by omega))
        · skip
          refine p_const 45 rfl rfl ?_
          refine p_zret rfl rfl (by decide) ?_
          -- leaf 2: answer [.inl 0] h=h1
          exact K 0 h1 ⟨kp, Or.inr ⟨rfl, noHo k0 k1 (fun g => by have := g.2.2.2 i i0 (by omega); omega)⟩⟩ S
    refine p_iload 15 rfl rfl rfl ?_
    refine p_aload 16 rfl rfl rfl ?_
    refine p_getfi (j := 38) (z := gv h1 66 38) 19 rfl rfl rfl (tg_66 S) rfl rfl ?_
    refine p_ic_ge_f 22 rfl rfl (by omega) ?_
    refine p_const 23 rfl rfl ?_
    refine p_istore (ls' := [some (.inr (.inr 66)), some (.inl v), some (.inl k), some (.inl 0)]) 24 rfl rfl (Nat.le_of_ble_eq_true rfl) rfl ?_
    -- leaf 1: loop 24 [some (.inr (.inr 66)), some (.inl v), some (.inl k), some (.inl 0)] st=[] h=h1
    exact inner k.toNat 0 (by omega) (Int.le_refl 0) (fun j j0 j1 => by omega)
theorem m_isHo {d : Nat} {h : PH} {q : PQ} (S : Shape h) (v : Int) (K : ∀ r h', HoR v h r h' → Shape h' → q (some (.inl r)) h') :
    Wp (d + 2) 0 0 M_X12_isHoist 0 [some (.inr (.inr 66)), some (.inl v), none, none] [] h q := by
  refine p_aload 1 rfl rfl rfl ?_
  refine p_iload 2 rfl rfl rfl ?_
  refine p_const 4 rfl rfl ?_
  refine p_callv (le := [some (.inr (.inr 66)), some (.inl v), some (.inl 29), none, none]) (as := [.inr (.inr 66), .inl v, .inl 29]) (rest := []) 7 0 0 0 0 rfl rfl (Nat.le_of_ble_eq_true rfl) rfl (Nat.le_of_ble_eq_true rfl) rfl rfl (Nat.le_of_ble_eq_true rfl) rfl (Nat.le_of_ble_eq_true rfl) rfl (Nat.le_refl _) (Nat.le_refl _) rfl rfl (tg_66 S) ?_
  refine m_splits S v 29  (fun r1 y1 p1 S1 => ?_)
  show Wp (d + 2) 0 0 M_X12_isHoist 7 [some (.inr (.inr 66)), some (.inl v), none, none] [.inl r1] y1 _
  refine p_if_ne 10 12 rfl rfl rfl (fun c2 => ?_) (fun c2 => ?_)
  · skip
    refine p_const 13 rfl rfl ?_
    refine p_istore (ls' := [some (.inr (.inr 66)), some (.inl v), some (.inl 0), none]) 14 rfl rfl (Nat.le_of_ble_eq_true rfl) rfl ?_
    -- leaf 1: loop 14 [some (.inr (.inr 66)), some (.inl v), some (.inl 0), none] st=[] h=y1
    obtain ⟨kp, ⟨z1, z2, z3, z4⟩ | ⟨z1, z2⟩⟩ := p1
    · exact m_isHo_loop v z2 K (rl v).toNat 0 0 _ _ rfl (by omega) S1 (kp.wide hoA_w) z3 z4 (fun j j0 => by omega) (fun j j0 j1 => by omega)
    · exact absurd z1 c2
  · skip
    refine p_const 11 rfl rfl ?_
    refine p_zret rfl rfl (by decide) ?_
    -- leaf 2: answer [.inl 0] h=y1
    obtain ⟨kp, ⟨z1, z2, z3, z4⟩ | ⟨z1, z2⟩⟩ := p1
    · omega
    · refine K 0 _ ⟨kp.wide hoA_w, Or.inr ⟨rfl, ?_⟩⟩ S1
      rcases z2 with z2 | ⟨k, k0, k1, z3⟩
      · exact fun z => by have := z.1; omega
      · exact noHo k0 k1 (fun g => z3 ⟨g.1, g.2.1⟩)
theorem m_rowOf_loop {d : Nat} {h : PH} {q : PQ} (S : Shape h) (v n : Int) (n4 : n ≤ 4) (hl : ∀ j : Nat, (j : Int) < n → gv h 93 j = lt v n j) (K : q (some (.inl (lv v n n.toNat))) h) :
    ∀ (c kk : Nat) (k x : Int), k = kk → k + c = n → x = lv v n kk → Wp (d + 1) 0 0 M_X12_rowOf 4 [some (.inr (.inr 66)), some (.inl n), some (.inl x), some (.inl k)] [] h q := by
  intro c
  induction c with
  | zero =>
    intro kk k x hk hc hx
    refine p_iload 5 rfl rfl rfl ?_
    refine p_iload 6 rfl rfl rfl ?_
    refine p_ic_ge_t 27 rfl rfl (by omega) ?_
    refine p_iload 28 rfl rfl rfl ?_
    refine p_iret rfl rfl ?_
    -- leaf 1: answer [.inl x] h=h
    rw [hx, show kk = n.toNat by omega]; exact K
  | succ c ih =>
    intro kk k x hk hc hx
    have l0 := lv_in v n kk (by omega)
    have l1 := lt_in v n kk
    have l2 := hl kk (by omega)
    rw [← hk] at l2
    refine p_iload 5 rfl rfl rfl ?_
    refine p_iload 6 rfl rfl rfl ?_
    refine p_ic_ge_f 9 rfl rfl (by omega) ?_
    refine p_const 11 rfl rfl ?_
    refine p_iload 12 rfl rfl rfl ?_
    refine p_imul (z := 32 * x) 13 rfl rfl (w32_id ⟨(by omega), (by omega)⟩) ?_
    refine p_aload 14 rfl rfl rfl ?_
    refine p_getfr (j := 39) (z := 93) 17 rfl rfl rfl (tg_66 S) rfl (fi_66_39 S) ?_
    refine p_iload 18 rfl rfl rfl ?_
    refine p_iald (w := 4) (z := gv h 93 k) 19 rfl rfl (tg_93 S) (ln_93 S) (by omega) (by omega) rfl ?_
    refine p_iadd (z := (32 * x) + (gv h 93 k)) 20 rfl rfl (w32_id ⟨(by omega), (by omega)⟩) ?_
    refine p_istore (ls' := [some (.inr (.inr 66)), some (.inl n), some (.inl ((32 * x) + (gv h 93 k))), some (.inl k)]) 21 rfl rfl (Nat.le_of_ble_eq_true rfl) rfl ?_
    refine p_iinc (y := k + 1) (ls' := [some (.inr (.inr 66)), some (.inl n), some (.inl ((32 * x) + (gv h 93 k))), some (.inl (k + 1))]) 24 rfl rfl rfl (w32_id ⟨(by omega), (by omega)⟩) rfl ?_
    refine p_goto 4 rfl rfl ?_
    -- leaf 1: loop 4 [some (.inr (.inr 66)), some (.inl n), some (.inl ((32 * x) + (gv h 93 k))), some (.inl (k + 1))] st=[] h=h
    exact ih (kk + 1) (k + 1) _ (by omega) (by omega) (by rw [lv_up, l2, hx]; omega)
theorem m_rowOf {d : Nat} {h : PH} {q : PQ} (S : Shape h) (v n : Int) (n0 : 0 ≤ n) (n4 : n ≤ 4) (hl : ∀ j : Nat, (j : Int) < n → gv h 93 j = lt v n j) (K : q (some (.inl (lv v n n.toNat))) h) :
    Wp (d + 1) 0 0 M_X12_rowOf 0 [some (.inr (.inr 66)), some (.inl n), none, none] [] h q := by
  refine p_const 1 rfl rfl ?_
  refine p_istore (ls' := [some (.inr (.inr 66)), some (.inl n), some (.inl 0), none]) 2 rfl rfl (Nat.le_of_ble_eq_true rfl) rfl ?_
  refine p_const 3 rfl rfl ?_
  refine p_istore (ls' := [some (.inr (.inr 66)), some (.inl n), some (.inl 0), some (.inl 0)]) 4 rfl rfl (Nat.le_of_ble_eq_true rfl) rfl ?_
  -- leaf 1: loop 4 [some (.inr (.inr 66)), some (.inl n), some (.inl 0), some (.inl 0)] st=[] h=h
  exact m_rowOf_loop S v n n4 hl K n.toNat 0 0 0 rfl (by omega) rfl
theorem HoR.yes {v r : Int} {h h' : PH} (p : HoR v h r h') (c : r ≠ 0) : isHo v ∧ gv h' 66 38 = rl v ∧ ∀ j : Nat, (j : Int) < rl v → gv h' 92 j = sg v (rl v) j ∧ gv h' 93 j = lt v (rl v) j := by
  rcases p.2 with ⟨_, a, b, c⟩ | ⟨z, _⟩
  · exact ⟨a, b, c⟩
  · exact absurd z c
theorem HoR.no {v r : Int} {h h' : PH} (p : HoR v h r h') (c : r = 0) : ¬ isHo v := by
  rcases p.2 with ⟨z, _⟩ | ⟨_, z⟩
  · exact absurd (z.symm.trans c) (by decide)
  · exact z
theorem m_rowOfH {d : Nat} {h : PH} {q : PQ} (S : Shape h) (n : Int) {v : Int} (x : isHo v ∧ n = rl v ∧ ∀ j : Nat, (j : Int) < rl v → gv h 92 j = sg v (rl v) j ∧ gv h 93 j = lt v (rl v) j) (K : q (some (.inl (lv v (rl v) (rl v).toNat))) h) :
    Wp (d + 1) 0 0 M_X12_rowOf 0 [some (.inr (.inr 66)), some (.inl n), none, none] [] h q := by
  have b := rl_in v
  obtain ⟨_, e, x⟩ := x
  subst e
  exact m_rowOf S v _ b.1 b.2 (fun j hj => (x j hj).2) K
theorem m_tells {d : Nat} {h : PH} {q : PQ} (S : Shape h) (v : Int) (K : ∀ r h', Keep hoA h h' → TellsR v r → Shape h' → q (some (.inl r)) h') :
    Wp (d + 3) 0 0 M_X12_tells 0 [some (.inr (.inr 66)), some (.inl v)] [] h q := by
  refine p_aload 1 rfl rfl rfl ?_
  refine p_iload 2 rfl rfl rfl ?_
  refine p_callv (le := [some (.inr (.inr 66)), some (.inl v), none, none]) (as := [.inr (.inr 66), .inl v]) (rest := []) 5 0 0 0 0 rfl rfl (Nat.le_of_ble_eq_true rfl) rfl (Nat.le_of_ble_eq_true rfl) rfl rfl (Nat.le_of_ble_eq_true rfl) rfl (Nat.le_of_ble_eq_true rfl) rfl (Nat.le_refl _) (Nat.le_refl _) rfl rfl (tg_66 S) ?_
  refine m_isHo S v  (fun r1 y1 p1 S1 => ?_)
  show Wp (d + 3) 0 0 M_X12_tells 5 [some (.inr (.inr 66)), some (.inl v)] [.inl r1] y1 _
  refine p_if_eq 8 19 rfl rfl rfl (fun c2 => ?_) (fun c2 => ?_)
  · skip
    refine p_const 20 rfl rfl ?_
    refine p_iret rfl rfl ?_
    -- leaf 1: answer [.inl (-1)] h=y1
    exact K _ _ p1.1 (Or.inr ⟨p1.no c2, rfl⟩) S1
  · skip
    refine p_aload 9 rfl rfl rfl ?_
    refine p_aload 10 rfl rfl rfl ?_
    refine p_getfi (j := 38) (z := gv y1 66 38) 13 rfl rfl rfl (tg_66 S1) rfl rfl ?_
    refine p_callv (le := [some (.inr (.inr 66)), some (.inl (gv y1 66 38)), none, none]) (as := [.inr (.inr 66), .inl (gv y1 66 38)]) (rest := []) 16 0 0 0 0 rfl rfl (Nat.le_of_ble_eq_true rfl) rfl (Nat.le_of_ble_eq_true rfl) rfl rfl (Nat.le_of_ble_eq_true rfl) rfl (Nat.le_of_ble_eq_true rfl) rfl (Nat.le_refl _) (Nat.le_refl _) rfl rfl (tg_66 S1) ?_
    refine m_rowOfH S1 (gv y1 66 38) (p1.yes c2) ?_
    show Wp (d + 3) 0 0 M_X12_tells 16 [some (.inr (.inr 66)), some (.inl v)] [.inl (lv v (rl v) (rl v).toNat)] y1 _
    refine p_goto 20 rfl rfl ?_
    refine p_iret rfl rfl ?_
    -- leaf 2: answer [.inl (lv v (rl v) (rl v).toNat)] h=y1
    exact K _ _ p1.1 (Or.inl ⟨(p1.yes c2).1, rfl⟩) S1
theorem tells_same {v r r' : Int} (a : TellsR v r) (b : TellsR v r') : r = r' := by
  rcases a with ⟨a, a1⟩ | ⟨a, a1⟩ <;> rcases b with ⟨b, b1⟩ | ⟨b, b1⟩
  · omega
  · exact absurd a b
  · exact absurd b a
  · omega

