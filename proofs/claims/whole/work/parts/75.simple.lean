/-! SENSES, LETTER, HOLDS, FAULT -/
def SnsR (h : PH) (r : Int) : Prop := r = if kb h = 0 then -1 else gv h 79 (kb h)
theorem x_senses {d : Nat} {h : PH} {q : PQ} (S : Shape h) (A : AI h) (K : ∀ r, SnsR h r → q (some (.inl r)) h) : Wp (d + 4) 0 0 M_X11_senses 0 [some (.inr (.inr 2)), none] [] h q := by
  have A0 := A
  unfold SnsR at K
  rcases A.kb with ⟨k0, x0⟩ | ⟨k1, k2, z1, Ro⟩
  · skip
    refine p_aload 1 rfl rfl rfl ?_
    refine p_callv (le := [some (.inr (.inr 2))]) (as := [.inr (.inr 2)]) (rest := []) 4 0 0 0 0 rfl rfl (Nat.le_of_ble_eq_true rfl) rfl (Nat.le_of_ble_eq_true rfl) rfl rfl (Nat.le_of_ble_eq_true rfl) rfl (Nat.le_of_ble_eq_true rfl) rfl (Nat.le_refl _) (Nat.le_refl _) rfl rfl (tg_2 S) ?_
    refine x_knownBook S  (A0) ?_
    show Wp (d + 4) 0 0 M_X11_senses 4 [some (.inr (.inr 2)), none] [.inr (.inr (xb h))] h _
    refine p_astore (ls' := [some (.inr (.inr 2)), some (.inr (.inr (xb h)))]) 5 rfl rfl (Nat.le_of_ble_eq_true rfl) rfl ?_
    refine p_aload 6 rfl rfl rfl ?_
    refine p_ifnonnull 9 13 rfl rfl rfl (fun z => absurd (by omega) z) (fun c2 => ?_)
    refine p_const 10 rfl rfl ?_
    refine p_goto 17 rfl rfl ?_
    refine p_iret rfl rfl ?_
    -- leaf 1: answer [.inl (-1)] h=h 
    exact K _ (by rw [if_pos k0])
  · obtain ⟨pl, Bk⟩ := Ro.bks
    have f0 := Bk.f0
    refine p_aload 1 rfl rfl rfl ?_
    refine p_callv (le := [some (.inr (.inr 2))]) (as := [.inr (.inr 2)]) (rest := []) 4 0 0 0 0 rfl rfl (Nat.le_of_ble_eq_true rfl) rfl (Nat.le_of_ble_eq_true rfl) rfl rfl (Nat.le_of_ble_eq_true rfl) rfl (Nat.le_of_ble_eq_true rfl) rfl (Nat.le_refl _) (Nat.le_refl _) rfl rfl (tg_2 S) ?_
    refine x_knownBook S  (A0) ?_
    show Wp (d + 4) 0 0 M_X11_senses 4 [some (.inr (.inr 2)), none] [.inr (.inr (xb h))] h _
    refine p_astore (ls' := [some (.inr (.inr 2)), some (.inr (.inr (xb h)))]) 5 rfl rfl (Nat.le_of_ble_eq_true rfl) rfl ?_
    refine p_aload 6 rfl rfl rfl ?_
    refine p_ifnonnull 9 13 rfl rfl rfl (fun c2 => ?_) (fun z => absurd z (by omega))
    refine p_aload 14 rfl rfl rfl ?_
    refine p_getfi (j := 0) (z := gv h (xb h) 0) 17 rfl rfl rfl Bk.tag rfl rfl ?_
    refine p_iret rfl rfl ?_
    -- leaf 1: answer [.inl (gv h (xb h) 0)] h=h 
    exact K _ (by rw [if_neg (by omega), f0])
theorem m_senses {d : Nat} {h : PH} {q : PQ} (S : Shape h) (A : AI h) (K : ∀ r, SnsR h r → q (some (.inl r)) h) : Wp (d + 3) 0 0 M_X12_senses 0 [some (.inr (.inr 66)), none] [] h q := by
  have A0 := A
  have nwi := nw_in A
  have kb0 := A.kb
  unfold SnsR at K
  refine p_aload 1 rfl rfl rfl ?_
  refine p_aload 2 rfl rfl rfl ?_
  refine p_callv (le := [some (.inr (.inr 66))]) (as := [.inr (.inr 66)]) (rest := [.inr (.inr 66)]) 5 0 0 0 0 rfl rfl (Nat.le_of_ble_eq_true rfl) rfl (Nat.le_of_ble_eq_true rfl) rfl rfl (Nat.le_of_ble_eq_true rfl) rfl (Nat.le_of_ble_eq_true rfl) rfl (Nat.le_refl _) (Nat.le_refl _) rfl rfl (tg_66 S) ?_
  refine m_now S  (A0) ?_
  show Wp (d + 3) 0 0 M_X12_senses 5 [some (.inr (.inr 66)), none] [.inl (nw h), .inr (.inr 66)] h _
  refine p_callv (le := [some (.inr (.inr 66)), some (.inl (nw h)), none, none]) (as := [.inr (.inr 66), .inl (nw h)]) (rest := []) 8 0 0 0 0 rfl rfl (Nat.le_of_ble_eq_true rfl) rfl (Nat.le_of_ble_eq_true rfl) rfl rfl (Nat.le_of_ble_eq_true rfl) rfl (Nat.le_of_ble_eq_true rfl) rfl (Nat.le_refl _) (Nat.le_refl _) rfl rfl (tg_66 S) ?_
  refine m_bookAt S (nw h) A (by omega) (by omega) ?_
  show Wp (d + 3) 0 0 M_X12_senses 8 [some (.inr (.inr 66)), none] [.inl (kb h)] h _
  refine p_istore (ls' := [some (.inr (.inr 66)), some (.inl (kb h))]) 9 rfl rfl (Nat.le_of_ble_eq_true rfl) rfl ?_
  refine p_iload 10 rfl rfl rfl ?_
  refine p_if_ne 13 17 rfl rfl rfl (fun c2 => ?_) (fun c2 => ?_)
  · skip
    refine p_aload 18 rfl rfl rfl ?_
    refine p_getfr (j := 20) (z := 79) 21 rfl rfl rfl (tg_66 S) rfl (fi_66_20 S) ?_
    refine p_iload 22 rfl rfl rfl ?_
    refine p_iald (w := 201) (z := gv h 79 (kb h)) 23 rfl rfl (tg_79 S) (ln_79 S) (by omega) (by omega) rfl ?_
    refine p_iret rfl rfl ?_
    -- leaf 1: answer [.inl (gv h 79 (kb h))] h=h 
    exact K _ (by rw [if_neg (by omega)])
  · skip
    refine p_const 14 rfl rfl ?_
    refine p_goto 23 rfl rfl ?_
    refine p_iret rfl rfl ?_
    -- leaf 2: answer [.inl (-1)] h=h 
    exact K _ (by rw [if_pos (by omega)])
/-! the length of a word, at most six letters -/
def wl (n : Nat) (v : Int) : Int := match n with
  | 0 => 0
  | n + 1 => if v > 0 then 1 + wl n (v / 32) else 0
theorem wl_in : ∀ (n : Nat) (v : Int), 0 ≤ wl n v ∧ wl n v ≤ n
  | 0, v => ⟨Int.le_refl 0, Int.le_refl 0⟩
  | n + 1, v => by
    have := wl_in n (v / 32)
    show 0 ≤ (if v > 0 then 1 + wl n (v / 32) else 0) ∧ (if v > 0 then 1 + wl n (v / 32) else 0) ≤ ((n + 1 : Nat) : Int)
    split <;> omega
theorem wl_s (n : Nat) (v : Int) : wl (n + 1) v = if v > 0 then 1 + wl n (v / 32) else 0 := rfl
theorem x_wordLength {d : Nat} {h : PH} {q : PQ} (S : Shape h) (v : Int) (K : q (some (.inl (wl 6 v))) h) : Wp (d + 1) 0 0 M_X11_wordLength 0 [some (.inl v), none, none] [] h q := by
  have w6 := wl_in 6 v
  have J : ∀ (c : Nat) (n x : Int), n + c = 6 → 0 ≤ n → n + wl c x = wl 6 v → Wp (d + 1) 0 0 M_X11_wordLength 4 [some (.inl v), some (.inl n), some (.inl x)] [] h q := by
    intro c
    induction c with
    | zero =>
      intro n x hn n0 e
      have e' : n = wl 6 v := by rw [← e]; exact (Int.add_zero n).symm
      refine p_iload 5 rfl rfl rfl ?_
      refine p_if_le 8 24 rfl rfl rfl (fun c1 => ?_) (fun c1 => ?_)
      · skip
        refine p_iload 25 rfl rfl rfl ?_
        refine p_iret rfl rfl ?_
        -- leaf 1: answer [.inl n] h=h 
        first | (exfalso; omega) | (rw [e']; exact K)
      · skip
        refine p_iload 9 rfl rfl rfl ?_
        refine p_const 11 rfl rfl ?_
        refine p_ic_ge 14 24 rfl rfl rfl (fun c2 => ?_) (fun c2 => ?_)
        · skip
          refine p_iload 25 rfl rfl rfl ?_
          refine p_iret rfl rfl ?_
          -- leaf 2: answer [.inl n] h=h 
          first | (exfalso; omega) | (rw [e']; exact K)
        · skip
          refine p_iinc (y := n + 1) (ls' := [some (.inl v), some (.inl (n + 1)), some (.inl x)]) 17 rfl rfl rfl (w32_id ⟨(by omega), (by omega)⟩) rfl ?_
          refine p_iload 18 rfl rfl rfl ?_
          refine p_const 19 rfl rfl ?_
          refine p_ishr (z := x / 32) 20 rfl rfl (by decide) (by decide) rfl ?_
          refine p_istore (ls' := [some (.inl v), some (.inl (n + 1)), some (.inl (x / 32))]) 21 rfl rfl (Nat.le_of_ble_eq_true rfl) rfl ?_
          refine p_goto 4 rfl rfl ?_
          -- leaf 3: loop 4 [some (.inl v), some (.inl (n + 1)), some (.inl (x / 32))] st=[] h=h 
          first | (exfalso; omega) | (rw [e']; exact K)
    | succ c ih =>
      intro n x hn n0 e
      rw [wl_s] at e
      refine p_iload 5 rfl rfl rfl ?_
      refine p_if_le 8 24 rfl rfl rfl (fun c1 => ?_) (fun c1 => ?_)
      · skip
        refine p_iload 25 rfl rfl rfl ?_
        refine p_iret rfl rfl ?_
        -- leaf 1: answer [.inl n] h=h 
        rw [if_neg (by omega)] at e
        rw [show n = wl 6 v by omega]; exact K
      · skip
        refine p_iload 9 rfl rfl rfl ?_
        refine p_const 11 rfl rfl ?_
        refine p_ic_ge 14 24 rfl rfl rfl (fun c2 => ?_) (fun c2 => ?_)
        · skip
          refine p_iload 25 rfl rfl rfl ?_
          refine p_iret rfl rfl ?_
          -- leaf 2: answer [.inl n] h=h 
          exfalso; omega
        · skip
          refine p_iinc (y := n + 1) (ls' := [some (.inl v), some (.inl (n + 1)), some (.inl x)]) 17 rfl rfl rfl (w32_id ⟨(by omega), (by omega)⟩) rfl ?_
          refine p_iload 18 rfl rfl rfl ?_
          refine p_const 19 rfl rfl ?_
          refine p_ishr (z := x / 32) 20 rfl rfl (by decide) (by decide) rfl ?_
          refine p_istore (ls' := [some (.inl v), some (.inl (n + 1)), some (.inl (x / 32))]) 21 rfl rfl (Nat.le_of_ble_eq_true rfl) rfl ?_
          refine p_goto 4 rfl rfl ?_
          -- leaf 3: loop 4 [some (.inl v), some (.inl (n + 1)), some (.inl (x / 32))] st=[] h=h 
          rw [if_pos (by omega)] at e
          exact ih (n + 1) (x / 32) (by omega) (by omega) (by omega)
  refine p_const 1 rfl rfl ?_
  refine p_istore (ls' := [some (.inl v), some (.inl 0), none]) 2 rfl rfl (Nat.le_of_ble_eq_true rfl) rfl ?_
  refine p_iload 3 rfl rfl rfl ?_
  refine p_istore (ls' := [some (.inl v), some (.inl 0), some (.inl v)]) 4 rfl rfl (Nat.le_of_ble_eq_true rfl) rfl ?_
  -- leaf 1: loop 4 [some (.inl v), some (.inl 0), some (.inl v)] st=[] h=h 
  exact J 6 0 v rfl (Int.le_refl 0) (Int.zero_add _)
abbrev argW (h : PH) (i k : Int) : Prop := kb h ≠ 0 ∧ (0 ≤ i ∧ i < gv h 79 (kb h)) ∧ 0 ≤ k ∧ k < 6
def ltW (v k : Int) : Int := if k < wl 6 v then v / 2 ^ (5 * (wl 6 v - 1 - k)).toNat % 32 else 0
def LetR (h : PH) (i c k r : Int) : Prop := (¬ argW h i k ∧ r = -1) ∨ (argW h i k ∧ r = ltW (if c ≠ 0 then cd h (kb h) i else nm h (kb h) i) k)
theorem x_letter {d : Nat} {h : PH} {q : PQ} (S : Shape h) (A : AI h) (i c k : Int) (K : ∀ r, LetR h i c k r → q (some (.inl r)) h) : Wp (d + 4) 0 0 M_X11_letter 0 [some (.inr (.inr 2)), some (.inl i), some (.inl c), some (.inl k), none, none, none] [] h q := by
  have A0 := A
  have w6 := fun v => wl_in 6 v
  rcases A.kb with ⟨k0, x0⟩ | ⟨k1, k2, z1, Ro⟩
  · skip
    refine p_aload 1 rfl rfl rfl ?_
    refine p_callv (le := [some (.inr (.inr 2))]) (as := [.inr (.inr 2)]) (rest := []) 4 0 0 0 0 rfl rfl (Nat.le_of_ble_eq_true rfl) rfl (Nat.le_of_ble_eq_true rfl) rfl rfl (Nat.le_of_ble_eq_true rfl) rfl (Nat.le_of_ble_eq_true rfl) rfl (Nat.le_refl _) (Nat.le_refl _) rfl rfl (tg_2 S) ?_
    refine x_knownBook S  (A0) ?_
    show Wp (d + 4) 0 0 M_X11_letter 4 [some (.inr (.inr 2)), some (.inl i), some (.inl c), some (.inl k), none, none, none] [.inr (.inr (xb h))] h _
    refine p_astore (ls' := [some (.inr (.inr 2)), some (.inl i), some (.inl c), some (.inl k), some (.inr (.inr (xb h))), none, none]) 6 rfl rfl (Nat.le_of_ble_eq_true rfl) rfl ?_
    refine p_aload 8 rfl rfl rfl ?_
    refine p_ifnull 11 34 rfl rfl rfl (fun c2 => ?_) (fun z => absurd (by omega) z)
    refine p_const 35 rfl rfl ?_
    refine p_iret rfl rfl ?_
    -- leaf 1: answer [.inl (-1)] h=h 
    exact K _ (Or.inl ⟨fun z => z.1 k0, rfl⟩)
  · obtain ⟨r1, r2, pl, r3, r4, Bk, Is⟩ := Ro
    have f0 := Bk.f0
    have L0 : ∀ (v : Int) (w : Option PV), argW h i k → v = (if c ≠ 0 then cd h (kb h) i else nm h (kb h) i) → Wp (d + 4) 0 0 M_X11_letter 57 [some (.inr (.inr 2)), some (.inl i), some (.inl c), some (.inl k), some (.inr (.inr (xb h))), none, w] [.inl v] h q := by
      intro v w ar hv
      have := w6 v
      refine p_istore (ls' := [some (.inr (.inr 2)), some (.inl i), some (.inl c), some (.inl k), some (.inr (.inr (xb h))), some (.inl v), w]) 59 rfl rfl (Nat.le_of_ble_eq_true rfl) rfl ?_
      refine p_iload 61 rfl rfl rfl ?_
      refine p_calls (le := [some (.inl v), none, none]) (as := [.inl v]) (rest := []) 64 0 0 0 0 rfl rfl (Nat.le_of_ble_eq_true rfl) rfl (Nat.le_of_ble_eq_true rfl) rfl rfl (Nat.le_of_ble_eq_true rfl) rfl (Nat.le_of_ble_eq_true rfl) rfl (Nat.le_refl _) (Nat.le_refl _) rfl rfl ?_
      refine x_wordLength S v  ?_
      show Wp (d + 4) 0 0 M_X11_letter 64 [some (.inr (.inr 2)), some (.inl i), some (.inl c), some (.inl k), some (.inr (.inr (xb h))), some (.inl v), w] [.inl (wl 6 v)] h _
      refine p_istore (ls' := [some (.inr (.inr 2)), some (.inl i), some (.inl c), some (.inl k), some (.inr (.inr (xb h))), some (.inl v), some (.inl (wl 6 v))]) 66 rfl rfl (Nat.le_of_ble_eq_true rfl) rfl ?_
      refine p_iload 67 rfl rfl rfl ?_
      refine p_iload 69 rfl rfl rfl ?_
      refine p_ic_ge 72 83 rfl rfl rfl (fun c1 => ?_) (fun c1 => ?_)
      · skip
        refine p_const 84 rfl rfl ?_
        refine p_iret rfl rfl ?_
        -- leaf 1: answer [.inl 0] h=h 
        exact K _ (Or.inr ⟨ar, by rw [← hv]; unfold ltW; rw [if_neg (by omega)]⟩)
      · skip
        refine p_iload 74 rfl rfl rfl ?_
        refine p_iload 76 rfl rfl rfl ?_
        refine p_iload 77 rfl rfl rfl ?_
        refine p_calls (le := [some (.inl v), some (.inl (wl 6 v)), some (.inl k)]) (as := [.inl v, .inl (wl 6 v), .inl k]) (rest := []) 80 0 0 0 0 rfl rfl (Nat.le_of_ble_eq_true rfl) rfl (Nat.le_of_ble_eq_true rfl) rfl rfl (Nat.le_of_ble_eq_true rfl) rfl (Nat.le_of_ble_eq_true rfl) rfl (Nat.le_refl _) (Nat.le_refl _) rfl rfl ?_
        refine x_sg S v (wl 6 v) k (by omega) (by omega) (by omega) (by omega) ?_
        show Wp (d + 4) 0 0 M_X11_letter 80 [some (.inr (.inr 2)), some (.inl i), some (.inl c), some (.inl k), some (.inr (.inr (xb h))), some (.inl v), some (.inl (wl 6 v))] [.inl (sg v (wl 6 v) k)] h _
        refine p_goto 84 rfl rfl ?_
        refine p_iret rfl rfl ?_
        -- leaf 2: answer [.inl (sg v (wl 6 v) k)] h=h 
        exact K _ (Or.inr ⟨ar, by rw [← hv]; unfold ltW; rw [if_pos (by omega)]; rfl⟩)
    refine p_aload 1 rfl rfl rfl ?_
    refine p_callv (le := [some (.inr (.inr 2))]) (as := [.inr (.inr 2)]) (rest := []) 4 0 0 0 0 rfl rfl (Nat.le_of_ble_eq_true rfl) rfl (Nat.le_of_ble_eq_true rfl) rfl rfl (Nat.le_of_ble_eq_true rfl) rfl (Nat.le_of_ble_eq_true rfl) rfl (Nat.le_refl _) (Nat.le_refl _) rfl rfl (tg_2 S) ?_
    refine x_knownBook S  (A0) ?_
    show Wp (d + 4) 0 0 M_X11_letter 4 [some (.inr (.inr 2)), some (.inl i), some (.inl c), some (.inl k), none, none, none] [.inr (.inr (xb h))] h _
    refine p_astore (ls' := [some (.inr (.inr 2)), some (.inl i), some (.inl c), some (.inl k), some (.inr (.inr (xb h))), none, none]) 6 rfl rfl (Nat.le_of_ble_eq_true rfl) rfl ?_
    refine p_aload 8 rfl rfl rfl ?_
    refine p_ifnull 11 34 rfl rfl rfl (fun z => absurd z (by omega)) (fun c2 => ?_)
    refine p_iload 12 rfl rfl rfl ?_
    refine p_if_lt 15 34 rfl rfl rfl (fun c3 => ?_) (fun c3 => ?_)
    · skip
      refine p_const 35 rfl rfl ?_
      refine p_iret rfl rfl ?_
      -- leaf 1: answer [.inl (-1)] h=h 
      exact K _ (Or.inl ⟨fun z => by omega, rfl⟩)
    · skip
      refine p_iload 16 rfl rfl rfl ?_
      refine p_aload 18 rfl rfl rfl ?_
      refine p_getfi (j := 0) (z := gv h (xb h) 0) 21 rfl rfl rfl Bk.tag rfl rfl ?_
      refine p_ic_ge 24 34 rfl rfl rfl (fun c4 => ?_) (fun c4 => ?_)
      · skip
        refine p_const 35 rfl rfl ?_
        refine p_iret rfl rfl ?_
        -- leaf 2: answer [.inl (-1)] h=h 
        exact K _ (Or.inl ⟨fun z => by have := z.2; omega, rfl⟩)
      · skip
        refine p_iload 25 rfl rfl rfl ?_
        refine p_if_lt 28 34 rfl rfl rfl (fun c5 => ?_) (fun c5 => ?_)
        · skip
          refine p_const 35 rfl rfl ?_
          refine p_iret rfl rfl ?_
          -- leaf 3: answer [.inl (-1)] h=h 
          exact K _ (Or.inl ⟨fun z => by omega, rfl⟩)
        · skip
          refine p_iload 29 rfl rfl rfl ?_
          refine p_const 31 rfl rfl ?_
          refine p_ic_lt 34 36 rfl rfl rfl (fun c6 => ?_) (fun c6 => ?_)
          · skip
            refine p_iload 37 rfl rfl rfl ?_
            refine p_if_eq 40 50 rfl rfl rfl (fun c7 => ?_) (fun c7 => ?_)
            · skip
              refine p_aload 52 rfl rfl rfl ?_
              refine p_getfr (j := 1) (z := (xb h) + 1) 55 rfl rfl rfl Bk.tag rfl Bk.f1 ?_
              refine p_iload 56 rfl rfl rfl ?_
              refine p_iald (w := (gv h 79 (kb h))) (z := gv h ((xb h) + 1) i) 57 rfl rfl (Bk.t1) (Bk.l1) (by omega) (by omega) rfl ?_
              -- leaf 4: loop 57 [some (.inr (.inr 2)), some (.inl i), some (.inl c), some (.inl k), some (.inr (.inr (xb h))), none, none] st=[.inl (gv h ((xb h) + 1) i)] h=h 
              exact L0 _ _ ⟨by omega, by omega, by omega⟩ (by rw [if_neg (by omega)]; exact (Is i (by omega) (by omega)).1.1)
            · skip
              refine p_aload 42 rfl rfl rfl ?_
              refine p_getfr (j := 2) (z := (xb h) + 2) 45 rfl rfl rfl Bk.tag rfl Bk.f2 ?_
              refine p_iload 46 rfl rfl rfl ?_
              refine p_iald (w := (gv h 79 (kb h))) (z := gv h ((xb h) + 2) i) 47 rfl rfl (Bk.t2) (Bk.l2) (by omega) (by omega) rfl ?_
              refine p_goto 57 rfl rfl ?_
              -- leaf 5: loop 57 [some (.inr (.inr 2)), some (.inl i), some (.inl c), some (.inl k), some (.inr (.inr (xb h))), none, none] st=[.inl (gv h ((xb h) + 2) i)] h=h 
              exact L0 _ _ ⟨by omega, by omega, by omega⟩ (by rw [if_pos (by omega)]; exact (Is i (by omega) (by omega)).2.1.1)
          · skip
            refine p_const 35 rfl rfl ?_
            refine p_iret rfl rfl ?_
            -- leaf 6: answer [.inl (-1)] h=h 
            exact K _ (Or.inl ⟨fun z => by omega, rfl⟩)
theorem wl_div {v : Int} {m : Nat} (v0 : 0 ≤ v) (j : Int) (hj : j = m) : v / 32 / 2 ^ (5 * j).toNat = v / 2 ^ (5 * (j + 1)).toNat := by
  rw [show (5 * (j + 1)).toNat = 5 + (5 * j).toNat by omega, Int.pow_add, ← Int.ediv_ediv_of_nonneg (by decide)]
  rfl
theorem m_letter {d : Nat} {h : PH} {q : PQ} (S : Shape h) (A : AI h) (i c k : Int) (K : ∀ r, LetR h i c k r → q (some (.inl r)) h) : Wp (d + 4) 0 0 M_X12_letter 0 [some (.inr (.inr 66)), some (.inl i), some (.inl c), some (.inl k), none, none, none, none, none, none] [] h q := by
  have A0 := A
  have w6 := fun v => wl_in 6 v
  have nwi := nw_in A
  have kb0 := A.kb
  have n79 : kb h = 0 ∨ (0 ≤ gv h 79 (kb h) ∧ gv h 79 (kb h) ≤ 40) := by
    rcases kb0 with ⟨z, _⟩ | ⟨_, _, _, R⟩
    · exact Or.inl z
    · exact Or.inr ⟨R.1, R.2.1⟩
  have J103 : ∀ (m : Nat) (b v x N : Int) (w9 : Option PV), 0 ≤ v → v < 1073741824 → x = k + m → 0 ≤ k → x < 6 → (∀ r, r = v / 2 ^ (5 * (m : Int)).toNat % 32 → q (some (.inl r)) h) → Wp (d + 4) 0 0 M_X12_letter 103 [some (.inr (.inr 66)), some (.inl i), some (.inl c), some (.inl k), some (.inl b), some (.inr (.inl v)), none, some (.inl N), some (.inl x), w9] [] h q := by
    intro m
    induction m with
    | zero =>
      intro b v x N w9 v0 v1 hx k0 x6 F
      refine p_iload 105 rfl rfl rfl ?_
      refine p_iload 106 rfl rfl rfl ?_
      refine p_ic_le_t 123 rfl rfl (by omega) ?_
      refine p_lload 125 rfl rfl rfl ?_
      refine p_lconst 128 rfl rfl ?_
      refine p_lrem (z := v % 32) 129 rfl rfl (by decide) (rm_id (by omega) (by omega)) ?_
      refine p_l2i (z := v % 32) 130 rfl rfl (w32_id ⟨(by omega), (by omega)⟩) ?_
      refine p_iret rfl rfl ?_
      -- leaf 1: answer [.inl (v % 32)] h=h 
      exact F _ (by rw [show v / 2 ^ (5 * ((0 : Nat) : Int)).toNat = v from Int.ediv_one v])
    | succ m ih =>
      intro b v x N w9 v0 v1 hx k0 x6 F
      refine p_iload 105 rfl rfl rfl ?_
      refine p_iload 106 rfl rfl rfl ?_
      refine p_ic_le_f 109 rfl rfl (by omega) ?_
      refine p_lload 111 rfl rfl rfl ?_
      refine p_lconst 114 rfl rfl ?_
      refine p_ldiv (z := v / 32) 115 rfl rfl (by decide) (dv64_id (by omega) (by omega) (by omega)) ?_
      refine p_lstore (ls' := [some (.inr (.inr 66)), some (.inl i), some (.inl c), some (.inl k), some (.inl b), some (.inr (.inl (v / 32))), none, some (.inl N), some (.inl x), w9]) 117 rfl rfl (Nat.le_of_ble_eq_true rfl) rfl ?_
      refine p_iinc (y := x - 1) (ls' := [some (.inr (.inr 66)), some (.inl i), some (.inl c), some (.inl k), some (.inl b), some (.inr (.inl (v / 32))), none, some (.inl N), some (.inl (x - 1)), w9]) 120 rfl rfl rfl (wsub_id ⟨(by omega), (by omega)⟩) rfl ?_
      refine p_goto 103 rfl rfl ?_
      -- leaf 1: loop 103 [some (.inr (.inr 66)), some (.inl i), some (.inl c), some (.inl k), some (.inl b), some (.inr (.inl (v / 32))), none, some (.inl N), some (.inl (x - 1)), w9] st=[] h=h 
      refine ih b (v / 32) (x - 1) N w9 (by omega) (by omega) (by omega) k0 (by omega) (fun r hr => F r ?_)
      rw [hr, wl_div (m := m) v0 m rfl]; rfl
  have J68 : ∀ (f : Nat) (b v x n : Int), argW h i k → 0 ≤ v → v < 1073741824 → v = (if c ≠ 0 then cd h (kb h) i else nm h (kb h) i) → 0 ≤ x → x < 32 ^ f → 0 ≤ n → n + f ≤ 6 → n + wl f x = wl 6 v → Wp (d + 4) 0 0 M_X12_letter 68 [some (.inr (.inr 66)), some (.inl i), some (.inl c), some (.inl k), some (.inl b), some (.inr (.inl v)), none, some (.inl n), some (.inr (.inl x)), none] [] h q := by
    intro f
    have fin : ∀ (b v x n : Int), argW h i k → 0 ≤ v → v < 1073741824 → v = (if c ≠ 0 then cd h (kb h) i else nm h (kb h) i) → x = 0 → n = wl 6 v → Wp (d + 4) 0 0 M_X12_letter 68 [some (.inr (.inr 66)), some (.inl i), some (.inl c), some (.inl k), some (.inl b), some (.inr (.inl v)), none, some (.inl n), some (.inr (.inl x)), none] [] h q := by
      intro b v x n ar v0 v1 hv hx hn
      have wv := w6 v
      have kk := ar.2.2
      refine p_lload 70 rfl rfl rfl ?_
      refine p_lconst 71 rfl rfl ?_
      refine p_lc_le 72 75 89 rfl rfl rfl rfl rfl (fun c1 => ?_) (fun c1 => ?_)
      · skip
        refine p_iload 90 rfl rfl rfl ?_
        refine p_iload 92 rfl rfl rfl ?_
        refine p_ic_lt 95 97 rfl rfl rfl (fun c2 => ?_) (fun c2 => ?_)
        · skip
          refine p_iload 99 rfl rfl rfl ?_
          refine p_const 100 rfl rfl ?_
          refine p_isub (z := n - 1) 101 rfl rfl (w32_id ⟨(by omega), (by omega)⟩) ?_
          refine p_istore (ls' := [some (.inr (.inr 66)), some (.inl i), some (.inl c), some (.inl k), some (.inl b), some (.inr (.inl v)), none, some (.inl n), some (.inl (n - 1)), none]) 103 rfl rfl (Nat.le_of_ble_eq_true rfl) rfl ?_
          -- leaf 1: loop 103 [some (.inr (.inr 66)), some (.inl i), some (.inl c), some (.inl k), some (.inl b), some (.inr (.inl v)), none, some (.inl n), some (.inl (n - 1)), none] st=[] h=h 
          first | (exfalso; omega) | exact J103 (n - 1 - k).toNat b v (n - 1) n _ v0 v1 (by omega) (by omega) (by omega) (fun r hr => K r (Or.inr ⟨ar, by rw [← hv]; unfold ltW; rw [if_pos (by omega), hr, hn, show (((wl 6 v - 1 - k).toNat : Nat) : Int) = wl 6 v - 1 - k by omega]⟩)) | exact K _ (Or.inr ⟨ar, by rw [← hv]; unfold ltW; rw [if_neg (by omega)]⟩)
        · skip
          refine p_const 96 rfl rfl ?_
          refine p_iret rfl rfl ?_
          -- leaf 2: answer [.inl 0] h=h 
          first | (exfalso; omega) | exact J103 (n - 1 - k).toNat b v (n - 1) n _ v0 v1 (by omega) (by omega) (by omega) (fun r hr => K r (Or.inr ⟨ar, by rw [← hv]; unfold ltW; rw [if_pos (by omega), hr, hn, show (((wl 6 v - 1 - k).toNat : Nat) : Int) = wl 6 v - 1 - k by omega]⟩)) | exact K _ (Or.inr ⟨ar, by rw [← hv]; unfold ltW; rw [if_neg (by omega)]⟩)
      · skip
        refine p_iinc (y := n + 1) (ls' := [some (.inr (.inr 66)), some (.inl i), some (.inl c), some (.inl k), some (.inl b), some (.inr (.inl v)), none, some (.inl (n + 1)), some (.inr (.inl x)), none]) 78 rfl rfl rfl (w32_id ⟨(by omega), (by omega)⟩) rfl ?_
        refine p_lload 80 rfl rfl rfl ?_
        refine p_lconst 83 rfl rfl ?_
        refine p_ldiv (z := x / 32) 84 rfl rfl (by decide) (dv64_id (by omega) (by omega) (by omega)) ?_
        refine p_lstore (ls' := [some (.inr (.inr 66)), some (.inl i), some (.inl c), some (.inl k), some (.inl b), some (.inr (.inl v)), none, some (.inl (n + 1)), some (.inr (.inl (x / 32))), none]) 86 rfl rfl (Nat.le_of_ble_eq_true rfl) rfl ?_
        refine p_goto 68 rfl rfl ?_
        -- leaf 3: loop 68 [some (.inr (.inr 66)), some (.inl i), some (.inl c), some (.inl k), some (.inl b), some (.inr (.inl v)), none, some (.inl (n + 1)), some (.inr (.inl (x / 32))), none] st=[] h=h 
        first | (exfalso; omega) | exact J103 (n - 1 - k).toNat b v (n - 1) n _ v0 v1 (by omega) (by omega) (by omega) (fun r hr => K r (Or.inr ⟨ar, by rw [← hv]; unfold ltW; rw [if_pos (by omega), hr, hn, show (((wl 6 v - 1 - k).toNat : Nat) : Int) = wl 6 v - 1 - k by omega]⟩)) | exact K _ (Or.inr ⟨ar, by rw [← hv]; unfold ltW; rw [if_neg (by omega)]⟩)
    induction f with
    | zero =>
      intro b v x n ar v0 v1 hv x0 xb n0 n6 e
      have xb : x < 1 := xb
      exact fin b v x n ar v0 v1 hv (by omega) (by rw [← e]; exact (Int.add_zero n).symm)
    | succ f ih =>
      intro b v x n ar v0 v1 hv x0 xb n0 n6 e
      rw [wl_s] at e
      by_cases z : x > 0
      · rw [if_pos z] at e
        have xl : x / 32 < 32 ^ f := by
          rw [Int.pow_succ] at xb
          omega
        have x2 : x < 1073741824 := by
          have : (32 : Int) ^ (f + 1) ≤ 32 ^ 6 := by
            have := Nat.pow_le_pow_right (show 0 < 32 by decide) (show f + 1 ≤ 6 by omega)
            have e1 : ((32 ^ (f + 1) : Nat) : Int) = 32 ^ (f + 1) := Int.natCast_pow 32 (f + 1)
            have e2 : ((32 ^ 6 : Nat) : Int) = 32 ^ 6 := Int.natCast_pow 32 6
            omega
          have e6 : (32 : Int) ^ 6 = 1073741824 := by decide
          omega
        refine p_lload 70 rfl rfl rfl ?_
        refine p_lconst 71 rfl rfl ?_
        refine p_lc_le 72 75 89 rfl rfl rfl rfl rfl (fun c1 => ?_) (fun c1 => ?_)
        · skip
          refine p_iload 90 rfl rfl rfl ?_
          refine p_iload 92 rfl rfl rfl ?_
          refine p_ic_lt 95 97 rfl rfl rfl (fun c2 => ?_) (fun c2 => ?_)
          · skip
            refine p_iload 99 rfl rfl rfl ?_
            refine p_const 100 rfl rfl ?_
            refine p_isub (z := n - 1) 101 rfl rfl (w32_id ⟨(by omega), (by omega)⟩) ?_
            refine p_istore (ls' := [some (.inr (.inr 66)), some (.inl i), some (.inl c), some (.inl k), some (.inl b), some (.inr (.inl v)), none, some (.inl n), some (.inl (n - 1)), none]) 103 rfl rfl (Nat.le_of_ble_eq_true rfl) rfl ?_
            -- leaf 1: loop 103 [some (.inr (.inr 66)), some (.inl i), some (.inl c), some (.inl k), some (.inl b), some (.inr (.inl v)), none, some (.inl n), some (.inl (n - 1)), none] st=[] h=h 
            first | (exfalso; omega) | exact ih b v (x / 32) (n + 1) ar v0 v1 hv (by omega) xl (by omega) (by omega) (by omega)
          · skip
            refine p_const 96 rfl rfl ?_
            refine p_iret rfl rfl ?_
            -- leaf 2: answer [.inl 0] h=h 
            first | (exfalso; omega) | exact ih b v (x / 32) (n + 1) ar v0 v1 hv (by omega) xl (by omega) (by omega) (by omega)
        · skip
          refine p_iinc (y := n + 1) (ls' := [some (.inr (.inr 66)), some (.inl i), some (.inl c), some (.inl k), some (.inl b), some (.inr (.inl v)), none, some (.inl (n + 1)), some (.inr (.inl x)), none]) 78 rfl rfl rfl (w32_id ⟨(by omega), (by omega)⟩) rfl ?_
          refine p_lload 80 rfl rfl rfl ?_
          refine p_lconst 83 rfl rfl ?_
          refine p_ldiv (z := x / 32) 84 rfl rfl (by decide) (dv64_id (by omega) (by omega) (by omega)) ?_
          refine p_lstore (ls' := [some (.inr (.inr 66)), some (.inl i), some (.inl c), some (.inl k), some (.inl b), some (.inr (.inl v)), none, some (.inl (n + 1)), some (.inr (.inl (x / 32))), none]) 86 rfl rfl (Nat.le_of_ble_eq_true rfl) rfl ?_
          refine p_goto 68 rfl rfl ?_
          -- leaf 3: loop 68 [some (.inr (.inr 66)), some (.inl i), some (.inl c), some (.inl k), some (.inl b), some (.inr (.inl v)), none, some (.inl (n + 1)), some (.inr (.inl (x / 32))), none] st=[] h=h 
          first | (exfalso; omega) | exact ih b v (x / 32) (n + 1) ar v0 v1 hv (by omega) xl (by omega) (by omega) (by omega)
      · rw [if_neg z] at e
        exact fin b v x n ar v0 v1 hv (by omega) (by omega)
  have J59 : ∀ (b v : Int), argW h i k → 0 ≤ v → v < 1073741824 → v = (if c ≠ 0 then cd h (kb h) i else nm h (kb h) i) → Wp (d + 4) 0 0 M_X12_letter 59 [some (.inr (.inr 66)), some (.inl i), some (.inl c), some (.inl k), some (.inl b), none, none, none, none, none] [.inr (.inl v)] h q := by
    intro b v ar v0 v1 hv
    refine p_lstore (ls' := [some (.inr (.inr 66)), some (.inl i), some (.inl c), some (.inl k), some (.inl b), some (.inr (.inl v)), none, none, none, none]) 61 rfl rfl (Nat.le_of_ble_eq_true rfl) rfl ?_
    refine p_const 62 rfl rfl ?_
    refine p_istore (ls' := [some (.inr (.inr 66)), some (.inl i), some (.inl c), some (.inl k), some (.inl b), some (.inr (.inl v)), none, some (.inl 0), none, none]) 64 rfl rfl (Nat.le_of_ble_eq_true rfl) rfl ?_
    refine p_lload 66 rfl rfl rfl ?_
    refine p_lstore (ls' := [some (.inr (.inr 66)), some (.inl i), some (.inl c), some (.inl k), some (.inl b), some (.inr (.inl v)), none, some (.inl 0), some (.inr (.inl v)), none]) 68 rfl rfl (Nat.le_of_ble_eq_true rfl) rfl ?_
    -- leaf 1: loop 68 [some (.inr (.inr 66)), some (.inl i), some (.inl c), some (.inl k), some (.inl b), some (.inr (.inl v)), none, some (.inl 0), some (.inr (.inl v)), none] st=[] h=h 
    exact J68 6 b v v 0 ar v0 v1 hv v0 (by show v < 1073741824; exact v1) (Int.le_refl 0) (by decide) (Int.zero_add _)
  refine p_aload 1 rfl rfl rfl ?_
  refine p_iload 2 rfl rfl rfl ?_
  refine p_callv (le := [some (.inr (.inr 66)), some (.inl i), none]) (as := [.inr (.inr 66), .inl i]) (rest := []) 5 0 0 0 0 rfl rfl (Nat.le_of_ble_eq_true rfl) rfl (Nat.le_of_ble_eq_true rfl) rfl rfl (Nat.le_of_ble_eq_true rfl) rfl (Nat.le_of_ble_eq_true rfl) rfl (Nat.le_refl _) (Nat.le_refl _) rfl rfl (tg_66 S) ?_
  refine p_aload 1 rfl rfl rfl ?_
  refine p_aload 2 rfl rfl rfl ?_
  refine p_callv (le := [some (.inr (.inr 66))]) (as := [.inr (.inr 66)]) (rest := [.inr (.inr 66)]) 5 0 0 0 0 rfl rfl (Nat.le_of_ble_eq_true rfl) rfl (Nat.le_of_ble_eq_true rfl) rfl rfl (Nat.le_of_ble_eq_true rfl) rfl (Nat.le_of_ble_eq_true rfl) rfl (Nat.le_refl _) (Nat.le_refl _) rfl rfl (tg_66 S) ?_
  refine m_now S  (A0) ?_
  show Wp (d + 3) 0 0 M_X12_isSense 5 [some (.inr (.inr 66)), some (.inl i), none] [.inl (nw h), .inr (.inr 66)] h _
  refine p_callv (le := [some (.inr (.inr 66)), some (.inl (nw h)), none, none]) (as := [.inr (.inr 66), .inl (nw h)]) (rest := []) 8 0 0 0 0 rfl rfl (Nat.le_of_ble_eq_true rfl) rfl (Nat.le_of_ble_eq_true rfl) rfl rfl (Nat.le_of_ble_eq_true rfl) rfl (Nat.le_of_ble_eq_true rfl) rfl (Nat.le_refl _) (Nat.le_refl _) rfl rfl (tg_66 S) ?_
  refine m_bookAt S (nw h) A (by omega) (by omega) ?_
  show Wp (d + 3) 0 0 M_X12_isSense 8 [some (.inr (.inr 66)), some (.inl i), none] [.inl (kb h)] h _
  refine p_istore (ls' := [some (.inr (.inr 66)), some (.inl i), some (.inl (kb h))]) 9 rfl rfl (Nat.le_of_ble_eq_true rfl) rfl ?_
  refine p_iload 10 rfl rfl rfl ?_
  refine p_if_le 13 35 rfl rfl rfl (fun c2 => ?_) (fun c2 => ?_)
  · skip
    refine p_const 36 rfl rfl ?_
    refine p_zret rfl rfl (by decide) ?_
    show Wp (d + 4) 0 0 M_X12_letter 5 [some (.inr (.inr 66)), some (.inl i), some (.inl c), some (.inl k), none, none, none, none, none, none] [.inl 0] h _
    refine p_if_eq_t 20 rfl rfl (by decide) ?_
    refine p_const 21 rfl rfl ?_
    refine p_iret rfl rfl ?_
    -- leaf 1: answer [.inl (-1)] h=h 
    exact K _ (Or.inl ⟨fun z => by have := z.1; omega, rfl⟩)
  · skip
    refine p_iload 14 rfl rfl rfl ?_
    refine p_i2l 15 rfl rfl ?_
    refine p_lconst 16 rfl rfl ?_
    refine p_aload 17 rfl rfl rfl ?_
    refine p_getfr (j := 20) (z := 79) 20 rfl rfl rfl (tg_66 S) rfl (fi_66_20 S) ?_
    refine p_iload 21 rfl rfl rfl ?_
    refine p_iald (w := 201) (z := gv h 79 (kb h)) 22 rfl rfl (tg_79 S) (ln_79 S) (by omega) (by omega) rfl ?_
    refine p_const 23 rfl rfl ?_
    refine p_isub (z := (gv h 79 (kb h)) - 1) 24 rfl rfl (w32_id ⟨(by omega), (by omega)⟩) ?_
    refine p_i2l 25 rfl rfl ?_
    refine p_calls (le := [some (.inr (.inl i)), none, some (.inr (.inl 0)), none, some (.inr (.inl ((gv h 79 (kb h)) - 1))), none]) (as := [.inr (.inl i), .inr (.inl 0), .inr (.inl ((gv h 79 (kb h)) - 1))]) (rest := []) 28 0 0 0 0 rfl rfl (Nat.le_of_ble_eq_true rfl) rfl (Nat.le_of_ble_eq_true rfl) rfl rfl (Nat.le_of_ble_eq_true rfl) rfl (Nat.le_of_ble_eq_true rfl) rfl (Nat.le_refl _) (Nat.le_refl _) rfl rfl ?_
    refine m_isIn S i 0 ((gv h 79 (kb h)) - 1)  (fun c3 => ?_) (fun c3 => ?_)
    · show Wp (d + 3) 0 0 M_X12_isSense 28 [some (.inr (.inr 66)), some (.inl i), some (.inl (kb h))] [.inl 1] h _
      refine p_if_eq_f 31 rfl rfl (by decide) ?_
      obtain ⟨_, _, _, r1, r2, pl, r3, r4, Bk, Is⟩ : 1 ≤ kb h ∧ kb h ≤ 200 ∧ 128 ≤ xb h ∧ BkR h (xb h) (kb h) := by rcases kb0 with w | w; omega; exact w
      obtain ⟨⟨_, i1, i2⟩, ⟨_, i3⟩, _⟩ := Is i (by omega) (by omega)
      have i4 := rl_pos i3.1
      refine p_const 32 rfl rfl ?_
      refine p_goto 36 rfl rfl ?_
      refine p_zret rfl rfl (by decide) ?_
      show Wp (d + 4) 0 0 M_X12_letter 5 [some (.inr (.inr 66)), some (.inl i), some (.inl c), some (.inl k), none, none, none, none, none, none] [.inl 1] h _
      refine p_if_eq_f 8 rfl rfl (by decide) ?_
      refine p_iload 9 rfl rfl rfl ?_
      refine p_i2l 10 rfl rfl ?_
      refine p_lconst 11 rfl rfl ?_
      refine p_lconst 14 rfl rfl ?_
      refine p_calls (le := [some (.inr (.inl k)), none, some (.inr (.inl 0)), none, some (.inr (.inl 5)), none]) (as := [.inr (.inl k), .inr (.inl 0), .inr (.inl 5)]) (rest := []) 17 0 0 0 0 rfl rfl (Nat.le_of_ble_eq_true rfl) rfl (Nat.le_of_ble_eq_true rfl) rfl rfl (Nat.le_of_ble_eq_true rfl) rfl (Nat.le_of_ble_eq_true rfl) rfl (Nat.le_refl _) (Nat.le_refl _) rfl rfl ?_
      refine m_isIn S k 0 5  (fun c4 => ?_) (fun c4 => ?_)
      · show Wp (d + 4) 0 0 M_X12_letter 17 [some (.inr (.inr 66)), some (.inl i), some (.inl c), some (.inl k), none, none, none, none, none, none] [.inl 1] h _
        refine p_if_ne_t 22 rfl rfl (by decide) ?_
        refine p_const 24 rfl rfl ?_
        refine p_aload 25 rfl rfl rfl ?_
        refine p_aload 26 rfl rfl rfl ?_
        refine p_callv (le := [some (.inr (.inr 66))]) (as := [.inr (.inr 66)]) (rest := [.inr (.inr 66), .inl 40]) 29 0 0 0 0 rfl rfl (Nat.le_of_ble_eq_true rfl) rfl (Nat.le_of_ble_eq_true rfl) rfl rfl (Nat.le_of_ble_eq_true rfl) rfl (Nat.le_of_ble_eq_true rfl) rfl (Nat.le_refl _) (Nat.le_refl _) rfl rfl (tg_66 S) ?_
        refine m_now S  (A0) ?_
        show Wp (d + 4) 0 0 M_X12_letter 29 [some (.inr (.inr 66)), some (.inl i), some (.inl c), some (.inl k), none, none, none, none, none, none] [.inl (nw h), .inr (.inr 66), .inl 40] h _
        refine p_callv (le := [some (.inr (.inr 66)), some (.inl (nw h)), none, none]) (as := [.inr (.inr 66), .inl (nw h)]) (rest := [.inl 40]) 32 0 0 0 0 rfl rfl (Nat.le_of_ble_eq_true rfl) rfl (Nat.le_of_ble_eq_true rfl) rfl rfl (Nat.le_of_ble_eq_true rfl) rfl (Nat.le_of_ble_eq_true rfl) rfl (Nat.le_refl _) (Nat.le_refl _) rfl rfl (tg_66 S) ?_
        refine m_bookAt S (nw h) A (by omega) (by omega) ?_
        show Wp (d + 4) 0 0 M_X12_letter 32 [some (.inr (.inr 66)), some (.inl i), some (.inl c), some (.inl k), none, none, none, none, none, none] [.inl (kb h), .inl 40] h _
        refine p_imul (z := 40 * (kb h)) 33 rfl rfl (w32_id ⟨(by omega), (by omega)⟩) ?_
        refine p_iload 34 rfl rfl rfl ?_
        refine p_iadd (z := (40 * (kb h)) + i) 35 rfl rfl (w32_id ⟨(by omega), (by omega)⟩) ?_
        refine p_istore (ls' := [some (.inr (.inr 66)), some (.inl i), some (.inl c), some (.inl k), some (.inl ((40 * (kb h)) + i)), none, none, none, none, none]) 37 rfl rfl (Nat.le_of_ble_eq_true rfl) rfl ?_
        refine p_iload 38 rfl rfl rfl ?_
        refine p_if_eq 41 52 rfl rfl rfl (fun c6 => ?_) (fun c6 => ?_)
        · skip
          refine p_aload 53 rfl rfl rfl ?_
          refine p_getfr (j := 21) (z := 80) 56 rfl rfl rfl (tg_66 S) rfl (fi_66_21 S) ?_
          refine p_iload 58 rfl rfl rfl ?_
          refine p_lald (w := 8040) (z := gv h 80 ((40 * (kb h)) + i)) 59 rfl rfl (tg_80 S) (ln_80 S) (by omega) (by omega) rfl ?_
          -- leaf 2: loop 59 [some (.inr (.inr 66)), some (.inl i), some (.inl c), some (.inl k), some (.inl ((40 * (kb h)) + i)), none, none, none, none, none] st=[.inr (.inl (gv h 80 ((40 * (kb h)) + i)))] h=h 
          exact J59 _ _ ⟨by omega, by omega, by omega⟩ (by show 0 ≤ nm h (kb h) i; omega) i2 (by rw [if_neg (by omega)]; rfl)
        · skip
          refine p_aload 42 rfl rfl rfl ?_
          refine p_getfr (j := 22) (z := 81) 45 rfl rfl rfl (tg_66 S) rfl (fi_66_22 S) ?_
          refine p_iload 47 rfl rfl rfl ?_
          refine p_iald (w := 8040) (z := gv h 81 ((40 * (kb h)) + i)) 48 rfl rfl (tg_81 S) (ln_81 S) (by omega) (by omega) rfl ?_
          refine p_i2l 49 rfl rfl ?_
          refine p_goto 59 rfl rfl ?_
          -- leaf 3: loop 59 [some (.inr (.inr 66)), some (.inl i), some (.inl c), some (.inl k), some (.inl ((40 * (kb h)) + i)), none, none, none, none, none] st=[.inr (.inl (gv h 81 ((40 * (kb h)) + i)))] h=h 
          exact J59 _ _ ⟨by omega, by omega, by omega⟩ (by show 0 ≤ cd h (kb h) i; omega) (by show cd h (kb h) i < _; omega) (by rw [if_pos (by omega)]; rfl)
      · show Wp (d + 4) 0 0 M_X12_letter 17 [some (.inr (.inr 66)), some (.inl i), some (.inl c), some (.inl k), none, none, none, none, none, none] [.inl 0] h _
        refine p_if_ne_f 20 rfl rfl (by decide) ?_
        refine p_const 21 rfl rfl ?_
        refine p_iret rfl rfl ?_
        -- leaf 4: answer [.inl (-1)] h=h 
        exact K _ (Or.inl ⟨fun z => by have := z.2; omega, rfl⟩)
    · show Wp (d + 3) 0 0 M_X12_isSense 28 [some (.inr (.inr 66)), some (.inl i), some (.inl (kb h))] [.inl 0] h _
      refine p_if_eq_t 35 rfl rfl (by decide) ?_
      refine p_const 36 rfl rfl ?_
      refine p_zret rfl rfl (by decide) ?_
      show Wp (d + 4) 0 0 M_X12_letter 5 [some (.inr (.inr 66)), some (.inl i), some (.inl c), some (.inl k), none, none, none, none, none, none] [.inl 0] h _
      refine p_if_eq_t 20 rfl rfl (by decide) ?_
      refine p_const 21 rfl rfl ?_
      refine p_iret rfl rfl ?_
      -- leaf 5: answer [.inl (-1)] h=h 
      exact K _ (Or.inl ⟨fun z => by have := z.2; omega, rfl⟩)

