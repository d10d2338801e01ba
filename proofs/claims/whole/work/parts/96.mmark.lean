/-! THE MODEL'S READER: marks -/
def hasMark (V : List Int) (b : Int) : Prop := ∃ k : Nat, b ≤ k ∧ V[k]? = some 20
theorem m_mark {d : Nat} {h : PH} {q : PQ} (S : Shape h) {V : List Int} {b : Int} (Y : StkM h V) (hb : gv h 66 30 = b) (b0 : 0 ≤ b) (lv : V.length ≤ 799) (K1 : hasMark V b → q (some (.inl 20)) h) (K2 : ¬ hasMark V b → q (some (.inl (-1))) h) :
    Wp (d + 2) 0 0 M_X12_mark 0 [some (.inr (.inr 66)), none] [] h q := by
  have y1 := Y.1
  have J : ∀ (c : Nat) (k : Int), k = (c : Int) - 1 → c ≤ V.length → (∀ j : Nat, c ≤ j → b ≤ j → V[j]? ≠ some 20) → Wp (d + 2) 0 0 M_X12_mark 7 [some (.inr (.inr 66)), some (.inl k)] [] h q := by
    intro c
    induction c with
    | zero =>
      intro k hk hc no
      refine p_iload 8 rfl rfl rfl ?_
      refine p_aload 9 rfl rfl rfl ?_
      refine p_getfi (j := 30) (z := b) 12 rfl rfl rfl (tg_66 S) rfl hb ?_
      refine p_ic_lt_t 34 rfl rfl (by omega) ?_
      refine p_iload 35 rfl rfl rfl ?_
      refine p_aload 36 rfl rfl rfl ?_
      refine p_getfi (j := 30) (z := b) 39 rfl rfl rfl (tg_66 S) rfl hb ?_
      refine p_ic_lt_t 51 rfl rfl (by omega) ?_
      refine p_const 52 rfl rfl ?_
      refine p_iret rfl rfl ?_
      -- leaf 1: answer [.inl (-1)] h=h 
      exact K2 (fun ⟨j, j0, j1⟩ => no j (Nat.zero_le j) j0 j1)
    | succ c ih =>
      intro k hk hc no
      have hg : V[c]? = some (V[c]'(by omega)) := List.getElem?_eq_getElem (by omega)
      generalize V[c]'(by omega) = x at hg
      have e85 : gv h 85 k = x := by rw [show k = (c : Int) by omega]; exact Y.2 c x hg
      refine p_iload 8 rfl rfl rfl ?_
      refine p_aload 9 rfl rfl rfl ?_
      refine p_getfi (j := 30) (z := b) 12 rfl rfl rfl (tg_66 S) rfl hb ?_
      refine p_ic_lt 15 34 rfl rfl rfl (fun c1 => ?_) (fun c1 => ?_)
      · skip
        refine p_iload 35 rfl rfl rfl ?_
        refine p_aload 36 rfl rfl rfl ?_
        refine p_getfi (j := 30) (z := b) 39 rfl rfl rfl (tg_66 S) rfl hb ?_
        refine p_ic_lt 42 51 rfl rfl rfl (fun c2 => ?_) (fun c2 => ?_)
        · skip
          refine p_const 52 rfl rfl ?_
          refine p_iret rfl rfl ?_
          -- leaf 1: answer [.inl (-1)] h=h 
          refine K2 (fun ⟨j, j0, j1⟩ => no j (by omega) j0 j1)
        · skip
          refine p_aload 43 rfl rfl rfl ?_
          refine p_getfr (j := 27) (z := 85) 46 rfl rfl rfl (tg_66 S) rfl (fi_66_27 S) ?_
          refine p_iload 47 rfl rfl rfl ?_
          refine p_iald (w := 800) (z := x) 48 rfl rfl (tg_85 S) (ln_85 S) (by omega) (by omega) e85 ?_
          refine p_goto 52 rfl rfl ?_
          refine p_iret rfl rfl ?_
          -- leaf 2: answer [.inl x] h=h 
          exfalso; omega
      · skip
        refine p_aload 16 rfl rfl rfl ?_
        refine p_aload 17 rfl rfl rfl ?_
        refine p_getfr (j := 27) (z := 85) 20 rfl rfl rfl (tg_66 S) rfl (fi_66_27 S) ?_
        refine p_iload 21 rfl rfl rfl ?_
        refine p_iald (w := 800) (z := x) 22 rfl rfl (tg_85 S) (ln_85 S) (by omega) (by omega) e85 ?_
        refine p_callv (le := [some (.inr (.inr 66)), some (.inl x)]) (as := [.inr (.inr 66), .inl x]) (rest := []) 25 0 0 0 0 rfl rfl (Nat.le_of_ble_eq_true rfl) rfl (Nat.le_of_ble_eq_true rfl) rfl rfl (Nat.le_of_ble_eq_true rfl) rfl (Nat.le_of_ble_eq_true rfl) rfl (Nat.le_refl _) (Nat.le_refl _) rfl rfl (tg_66 S) ?_
        refine p_iload 1 rfl rfl rfl ?_
        refine p_const 3 rfl rfl ?_
        refine p_ic_ne 6 10 rfl rfl rfl (fun c3 => ?_) (fun c3 => ?_)
        · skip
          refine p_const 11 rfl rfl ?_
          refine p_zret rfl rfl (by decide) ?_
          show Wp (d + 2) 0 0 M_X12_mark 25 [some (.inr (.inr 66)), some (.inl k)] [.inl 0] h _
          refine p_if_ne_f 28 rfl rfl (by decide) ?_
          refine p_iinc (y := k - 1) (ls' := [some (.inr (.inr 66)), some (.inl (k - 1))]) 31 rfl rfl rfl (wsub_id ⟨(by omega), (by omega)⟩) rfl ?_
          refine p_goto 7 rfl rfl ?_
          -- leaf 3: loop 7 [some (.inr (.inr 66)), some (.inl (k - 1))] st=[] h=h 
          refine ih (k - 1) (by omega) (by omega) (fun j j0 j1 z => ?_)
          by_cases e : j = c
          · rw [e, hg] at z
            cases z
            exact c3 rfl
          · exact no j (by omega) j1 z
        · skip
          refine p_const 7 rfl rfl ?_
          refine p_goto 11 rfl rfl ?_
          refine p_zret rfl rfl (by decide) ?_
          show Wp (d + 2) 0 0 M_X12_mark 25 [some (.inr (.inr 66)), some (.inl k)] [.inl 1] h _
          refine p_if_ne_t 34 rfl rfl (by decide) ?_
          refine p_iload 35 rfl rfl rfl ?_
          refine p_aload 36 rfl rfl rfl ?_
          refine p_getfi (j := 30) (z := b) 39 rfl rfl rfl (tg_66 S) rfl hb ?_
          refine p_ic_lt 42 51 rfl rfl rfl (fun c4 => ?_) (fun c4 => ?_)
          · skip
            refine p_const 52 rfl rfl ?_
            refine p_iret rfl rfl ?_
            -- leaf 4: answer [.inl (-1)] h=h 
            exfalso; omega
          · skip
            refine p_aload 43 rfl rfl rfl ?_
            refine p_getfr (j := 27) (z := 85) 46 rfl rfl rfl (tg_66 S) rfl (fi_66_27 S) ?_
            refine p_iload 47 rfl rfl rfl ?_
            refine p_iald (w := 800) (z := x) 48 rfl rfl (tg_85 S) (ln_85 S) (by omega) (by omega) e85 ?_
            refine p_goto 52 rfl rfl ?_
            refine p_iret rfl rfl ?_
            -- leaf 5: answer [.inl x] h=h 
            have ex : x = 20 := by omega
            subst ex
            exact K1 ⟨c, by omega, hg⟩
  refine p_aload 1 rfl rfl rfl ?_
  refine p_getfi (j := 28) (z := (V.length : Int)) 4 rfl rfl rfl (tg_66 S) rfl y1 ?_
  refine p_const 5 rfl rfl ?_
  refine p_isub (z := (V.length : Int) - 1) 6 rfl rfl (w32_id ⟨(by omega), (by omega)⟩) ?_
  refine p_istore (ls' := [some (.inr (.inr 66)), some (.inl ((V.length : Int) - 1))]) 7 rfl rfl (Nat.le_of_ble_eq_true rfl) rfl ?_
  -- leaf 1: loop 7 [some (.inr (.inr 66)), some (.inl ((V.length : Int) - 1))] st=[] h=h 
  exact J V.length _ rfl (Nat.le_refl _) (fun j j0 _ z => by rw [List.getElem?_eq_none j0] at z; cases z)
/-- a sum's sign that waits, or none -/
def pendOp (l : List Int) : Prop := l = [] ∨ ∃ x, l = [x] ∧ 1 ≤ x ∧ x ≤ 3
theorem m_dropsToMark {d : Nat} {h : PH} {q : PQ} (S : Shape h) {W C pend : List Int} {b : Int} (Y : StkM h (W ++ [20] ++ pend)) (X : CodM h C) (pp : pendOp pend) (hb : gv h 66 30 = b) (b0 : 0 ≤ b) (bw : b ≤ W.length) (lv : W.length ≤ 790) (lc : C.length < 698)
    (K : ∀ h', (Keep drA h h' ∧ StkM h' (W ++ [20]) ∧ CodM h' (C ++ pend)) → Shape h' → q none h') :
    Wp (d + 3) 0 0 M_X12_dropsToMark 0 [some (.inr (.inr 66))] [] h q := by
  have J0 : ∀ (h1 : PH) (D : List Int), StkM h1 (W ++ [20]) → CodM h1 D → D = C ++ pend → Keep drA h h1 → Shape h1 → Wp (d + 3) 0 0 M_X12_dropsToMark 0 [some (.inr (.inr 66))] [] h1 q := by
    intro h1 D Y1 X1 eD k1 S1
    obtain ⟨y1, y2⟩ := Y1.top
    have hb1 : gv h1 66 30 = b := (k1.1 66 30 rfl).trans hb
    have ev : gv h1 85 (((W.length : Int) + 1) - 1) = 20 := by rw [show (((W.length : Int) + 1) - 1) = W.length by omega]; exact y2
    refine p_aload 1 rfl rfl rfl ?_
    refine p_getfi (j := 28) (z := (W.length : Int) + 1) 4 rfl rfl rfl (tg_66 S1) rfl y1 ?_
    refine p_aload 5 rfl rfl rfl ?_
    refine p_getfi (j := 30) (z := b) 8 rfl rfl rfl (tg_66 S1) rfl hb1 ?_
    refine p_ic_le 11 36 rfl rfl rfl (fun c1 => ?_) (fun c1 => ?_)
    · skip
      refine p_ret rfl rfl ?_
      -- leaf 1: answer [] h=h1 
      exfalso; omega
    · skip
      refine p_aload 12 rfl rfl rfl ?_
      refine p_aload 13 rfl rfl rfl ?_
      refine p_getfr (j := 27) (z := 85) 16 rfl rfl rfl (tg_66 S1) rfl (fi_66_27 S1) ?_
      refine p_aload 17 rfl rfl rfl ?_
      refine p_getfi (j := 28) (z := (W.length : Int) + 1) 20 rfl rfl rfl (tg_66 S1) rfl y1 ?_
      refine p_const 21 rfl rfl ?_
      refine p_isub (z := ((W.length : Int) + 1) - 1) 22 rfl rfl (w32_id ⟨(by omega), (by omega)⟩) ?_
      refine p_iald (w := 800) (z := gv h1 85 (((W.length : Int) + 1) - 1)) 23 rfl rfl (tg_85 S1) (ln_85 S1) (by omega) (by omega) rfl ?_
      refine p_callv (le := [some (.inr (.inr 66)), some (.inl (gv h1 85 (((W.length : Int) + 1) - 1)))]) (as := [.inr (.inr 66), .inl (gv h1 85 (((W.length : Int) + 1) - 1))]) (rest := []) 26 0 0 0 0 rfl rfl (Nat.le_of_ble_eq_true rfl) rfl (Nat.le_of_ble_eq_true rfl) rfl rfl (Nat.le_of_ble_eq_true rfl) rfl (Nat.le_of_ble_eq_true rfl) rfl (Nat.le_refl _) (Nat.le_refl _) rfl rfl (tg_66 S1) ?_
      refine p_iload 1 rfl rfl rfl ?_
      refine p_const 3 rfl rfl ?_
      refine p_ic_ne 6 10 rfl rfl rfl (fun c2 => ?_) (fun c2 => ?_)
      · skip
        refine p_const 11 rfl rfl ?_
        refine p_zret rfl rfl (by decide) ?_
        show Wp (d + 3) 0 0 M_X12_dropsToMark 26 [some (.inr (.inr 66))] [.inl 0] h1 _
        refine p_if_ne_f 29 rfl rfl (by decide) ?_
        refine p_aload 30 rfl rfl rfl ?_
        refine p_callv (le := [some (.inr (.inr 66))]) (as := [.inr (.inr 66)]) (rest := []) 33 0 0 0 0 rfl rfl (Nat.le_of_ble_eq_true rfl) rfl (Nat.le_of_ble_eq_true rfl) rfl rfl (Nat.le_of_ble_eq_true rfl) rfl (Nat.le_of_ble_eq_true rfl) rfl (Nat.le_refl _) (Nat.le_refl _) rfl rfl (tg_66 S1) ?_
        refine m_drops S1 Y1 X1 (by omega) (by omega) (fun y3 p3 S3 => ?_)
        show Wp (d + 3) 0 0 M_X12_dropsToMark 33 [some (.inr (.inr 66))] [] y3 _
        refine p_goto 0 rfl rfl ?_
        -- leaf 2: loop 0 [some (.inr (.inr 66))] st=[] h=y3 
        exfalso; omega
      · skip
        refine p_const 7 rfl rfl ?_
        refine p_goto 11 rfl rfl ?_
        refine p_zret rfl rfl (by decide) ?_
        show Wp (d + 3) 0 0 M_X12_dropsToMark 26 [some (.inr (.inr 66))] [.inl 1] h1 _
        refine p_if_ne_t 36 rfl rfl (by decide) ?_
        refine p_ret rfl rfl ?_
        -- leaf 3: answer [] h=h1 
        exact K _ ⟨k1, Y1, by rw [← eD]; exact X1⟩ S1
  rcases pp with e | ⟨x, e, x1, x3⟩
  · subst e
    rw [List.append_nil] at Y
    exact J0 h C Y X (List.append_nil C).symm (Keep.rf _ _) S
  · subst e
    obtain ⟨y1, y2⟩ := Y.top
    have wl : (W ++ [20]).length = W.length + 1 := by rw [List.length_append]; rfl
    rw [wl] at y1 y2
    have ev : gv h 85 ((((W.length + 1 : Nat) : Int) + 1) - 1) = x := by rw [show ((((W.length + 1 : Nat) : Int) + 1) - 1) = ((W.length + 1 : Nat) : Int) by omega]; exact y2
    refine p_aload 1 rfl rfl rfl ?_
    refine p_getfi (j := 28) (z := ((W.length + 1 : Nat) : Int) + 1) 4 rfl rfl rfl (tg_66 S) rfl y1 ?_
    refine p_aload 5 rfl rfl rfl ?_
    refine p_getfi (j := 30) (z := b) 8 rfl rfl rfl (tg_66 S) rfl hb ?_
    refine p_ic_le 11 36 rfl rfl rfl (fun c1 => ?_) (fun c1 => ?_)
    · skip
      refine p_ret rfl rfl ?_
      -- leaf 1: answer [] h=h 
      exfalso; omega
    · skip
      refine p_aload 12 rfl rfl rfl ?_
      refine p_aload 13 rfl rfl rfl ?_
      refine p_getfr (j := 27) (z := 85) 16 rfl rfl rfl (tg_66 S) rfl (fi_66_27 S) ?_
      refine p_aload 17 rfl rfl rfl ?_
      refine p_getfi (j := 28) (z := ((W.length + 1 : Nat) : Int) + 1) 20 rfl rfl rfl (tg_66 S) rfl y1 ?_
      refine p_const 21 rfl rfl ?_
      refine p_isub (z := (((W.length + 1 : Nat) : Int) + 1) - 1) 22 rfl rfl (w32_id ⟨(by omega), (by omega)⟩) ?_
      refine p_iald (w := 800) (z := gv h 85 ((((W.length + 1 : Nat) : Int) + 1) - 1)) 23 rfl rfl (tg_85 S) (ln_85 S) (by omega) (by omega) rfl ?_
      refine p_callv (le := [some (.inr (.inr 66)), some (.inl (gv h 85 ((((W.length + 1 : Nat) : Int) + 1) - 1)))]) (as := [.inr (.inr 66), .inl (gv h 85 ((((W.length + 1 : Nat) : Int) + 1) - 1))]) (rest := []) 26 0 0 0 0 rfl rfl (Nat.le_of_ble_eq_true rfl) rfl (Nat.le_of_ble_eq_true rfl) rfl rfl (Nat.le_of_ble_eq_true rfl) rfl (Nat.le_of_ble_eq_true rfl) rfl (Nat.le_refl _) (Nat.le_refl _) rfl rfl (tg_66 S) ?_
      refine p_iload 1 rfl rfl rfl ?_
      refine p_const 3 rfl rfl ?_
      refine p_ic_ne 6 10 rfl rfl rfl (fun c2 => ?_) (fun c2 => ?_)
      · skip
        refine p_const 11 rfl rfl ?_
        refine p_zret rfl rfl (by decide) ?_
        show Wp (d + 3) 0 0 M_X12_dropsToMark 26 [some (.inr (.inr 66))] [.inl 0] h _
        refine p_if_ne_f 29 rfl rfl (by decide) ?_
        refine p_aload 30 rfl rfl rfl ?_
        refine p_callv (le := [some (.inr (.inr 66))]) (as := [.inr (.inr 66)]) (rest := []) 33 0 0 0 0 rfl rfl (Nat.le_of_ble_eq_true rfl) rfl (Nat.le_of_ble_eq_true rfl) rfl rfl (Nat.le_of_ble_eq_true rfl) rfl (Nat.le_of_ble_eq_true rfl) rfl (Nat.le_refl _) (Nat.le_refl _) rfl rfl (tg_66 S) ?_
        refine m_drops S Y X (by omega) (by rw [wl]; omega) (fun y3 p3 S3 => ?_)
        show Wp (d + 3) 0 0 M_X12_dropsToMark 33 [some (.inr (.inr 66))] [] y3 _
        refine p_goto 0 rfl rfl ?_
        -- leaf 2: loop 0 [some (.inr (.inr 66))] st=[] h=y3 
        exact J0 _ (C ++ [x]) p3.2.1 p3.2.2 rfl p3.1 S3
      · skip
        refine p_const 7 rfl rfl ?_
        refine p_goto 11 rfl rfl ?_
        refine p_zret rfl rfl (by decide) ?_
        show Wp (d + 3) 0 0 M_X12_dropsToMark 26 [some (.inr (.inr 66))] [.inl 1] h _
        refine p_if_ne_t 36 rfl rfl (by decide) ?_
        refine p_ret rfl rfl ?_
        -- leaf 3: answer [] h=h 
        exfalso; omega

