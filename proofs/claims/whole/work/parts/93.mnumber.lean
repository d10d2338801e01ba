/-! THE MODEL'S READER: a number -/
def nmA (a i : Int) : Bool := decide (a = 66 ∧ (i = 2 ∨ i = 4 ∨ i = 5 ∨ i = 6))
theorem lukA_nmA : ∀ a i, nmA a i = false → lukA a i = false := fun a i => dw (by omega)
theorem m_number {d : Nat} {h : PH} {q : PQ} (S : Shape h) {T : Int → Int} {n : Int} {L : List Tok} {i : Nat} (O : TxO T n) (X : TxM h T n) (LX : LexA T n L) (M : MAt h T n L i) (b0 : gv h 66 5 = 0) (p3 : (prv L i).1 ≠ 3)
    (K : ∀ r h', (Keep nmA h h' ∧ (((tk L i).1 = 2 ∧ (tk L i).2.2.1 - (tk L i).2.1 ≤ 4 ∧ r = (tk L i).2.2.2 ∧ MAt h' T n L (i + 1) ∧ gv h' 66 5 = 0 ∧ gv h' 66 6 = gv h 66 6) ∨ ((tk L i).1 = 2 ∧ 4 < (tk L i).2.2.1 - (tk L i).2.1 ∧ r = 0 ∧ gv h' 66 5 = 1 ∧ gv h' 66 6 = (tk L i).2.1 + 4) ∨ ((tk L i).1 ≠ 2 ∧ r = 0 ∧ gv h' 66 5 = 1 ∧ gv h' 66 6 = (tk L i).2.1))) → Shape h' → q (some (.inl r)) h') :
    Wp (d + 2) 0 0 M_X12_number 0 [some (.inr (.inr 66)), some (.inl 0), some (.inl 9999), none, none] [] h q := by
  have n7 := O.1
  have B := LX.tl O
  have TA := LX.tok O M.1
  have t2 := TA.2.1
  have J49 : ∀ (c k : Nat) (x : Int) (h1 : PH), (tk L i).1 = 2 → ends isDig T (tk L i).2.1 (tk L i).2.2.1 → (tk L i).2.2.1 ≤ n → (tk L i).2.2.2 = nv T (tk L i).2.1 (if (tk L i).2.2.1 - (tk L i).2.1 ≤ 4 then (tk L i).2.2.1 - (tk L i).2.1 else 4).toNat → x + c = (tk L i).2.2.1 → x = (tk L i).2.1 + k → k ≤ 4 → Shape h1 → Keep lukA h h1 → gv h1 66 2 = x →
      Wp (d + 2) 0 0 M_X12_number 49 [some (.inr (.inr 66)), some (.inl 0), some (.inl 9999), some (.inl ((tk L i).2.1)), some (.inl (nv T (tk L i).2.1 k))] [] h1 q := by
    intro c
    induction c with
    | zero =>
      intro k x h1 k2 hend en hv hx hk k4 S1 k1 g2
      have hn : gv h1 66 3 = n := (k1.1 66 3 rfl).trans X.1
      have nd := hend.2.2
      have ex : x = (tk L i).2.2.1 := by omega
      have wi := nv_in (T := T) (p := (tk L i).2.1) (k := k) (fun j j0 j1 => hend.2.1 j j0 (by omega))
      have b4 : nv T (tk L i).2.1 k < 10000 := by
        have h1 : (10 : Nat) ^ k ≤ 10 ^ 4 := Nat.pow_le_pow_right (by decide) (by omega)
        have e1 : ((10 ^ k : Nat) : Int) = 10 ^ k := Int.natCast_pow 10 k
        have e2 : (10 : Nat) ^ 4 = 10000 := by decide
        omega
      have fin : Wp (d + 2) 0 0 M_X12_number 129 [some (.inr (.inr 66)), some (.inl 0), some (.inl 9999), some (.inl ((tk L i).2.1)), some (.inl (nv T (tk L i).2.1 k))] [] h1 q := by
        refine p_aload 130 rfl rfl rfl ?_
        refine p_aload 131 rfl rfl rfl ?_
        refine p_getfi (j := 2) (z := x) 134 rfl rfl rfl (tg_66 S1) rfl g2 ?_
        refine p_putfi (j := 4) 137 rfl rfl rfl (fun z => absurd z (by decide)) (tg_66 S1) rfl ?_
        refine p_nmh (fun y1 e1 => ?_)
        have S1 : Shape y1 := by rw [e1]; exact S1.svF ff_66_4 _
        refine p_iload 139 rfl rfl rfl ?_
        refine p_i2l 140 rfl rfl ?_
        refine p_iload 141 rfl rfl rfl ?_
        refine p_i2l 142 rfl rfl ?_
        refine p_iload 143 rfl rfl rfl ?_
        refine p_i2l 144 rfl rfl ?_
        refine p_calls (le := [some (.inr (.inl (nv T (tk L i).2.1 k))), none, some (.inr (.inl 0)), none, some (.inr (.inl 9999)), none]) (as := [.inr (.inl (nv T (tk L i).2.1 k)), .inr (.inl 0), .inr (.inl 9999)]) (rest := []) 147 0 0 0 0 rfl rfl (Nat.le_of_ble_eq_true rfl) rfl (Nat.le_of_ble_eq_true rfl) rfl rfl (Nat.le_of_ble_eq_true rfl) rfl (Nat.le_of_ble_eq_true rfl) rfl (Nat.le_refl _) (Nat.le_refl _) rfl rfl ?_
        refine m_isIn S1 (nv T (tk L i).2.1 k) 0 9999  (fun c2 => ?_) (fun c2 => ?_)
        · show Wp (d + 2) 0 0 M_X12_number 147 [some (.inr (.inr 66)), some (.inl 0), some (.inl 9999), some (.inl ((tk L i).2.1)), some (.inl (nv T (tk L i).2.1 k))] [.inl 1] y1 _
          refine p_if_ne_t 156 rfl rfl (by decide) ?_
          refine p_iload 158 rfl rfl rfl ?_
          refine p_iret rfl rfl ?_
          -- leaf 1: answer [.inl (nv T (tk L i).2.1 k)] h=y1 e1
          refine K _ _ ⟨by rw [e1]; exact (k1.wide lukA_nmA).sv rfl _, Or.inl ⟨k2, by omega, ?_, MAt.word O LX (B.nx M.1 (by omega)).1 (Or.inr (Or.inl k2)) (by omega) ?_ ?_, ?_, ?_⟩⟩ S1
          · rw [hv, if_pos (by omega), show ((tk L i).2.2.1 - (tk L i).2.1).toNat = k by omega]
          · rw [e1, sv_nf (by decide)]; omega
          · rw [e1, sv_eq]; omega
          · rw [e1, sv_nf (by decide)]; exact (k1.1 66 5 rfl).trans b0
          · rw [e1, sv_nf (by decide)]; exact k1.1 66 6 rfl
        · show Wp (d + 2) 0 0 M_X12_number 147 [some (.inr (.inr 66)), some (.inl 0), some (.inl 9999), some (.inl ((tk L i).2.1)), some (.inl (nv T (tk L i).2.1 k))] [.inl 0] y1 _
          refine p_if_ne_f 150 rfl rfl (by decide) ?_
          refine p_aload 151 rfl rfl rfl ?_
          refine p_const 152 rfl rfl ?_
          refine p_iload 153 rfl rfl rfl ?_
          refine p_callv (le := [some (.inr (.inr 66)), some (.inl 2), some (.inl ((tk L i).2.1))]) (as := [.inr (.inr 66), .inl 2, .inl ((tk L i).2.1)]) (rest := []) 156 0 0 0 0 rfl rfl (Nat.le_of_ble_eq_true rfl) rfl (Nat.le_of_ble_eq_true rfl) rfl rfl (Nat.le_of_ble_eq_true rfl) rfl (Nat.le_of_ble_eq_true rfl) rfl (Nat.le_refl _) (Nat.le_refl _) rfl rfl (tg_66 S1) ?_
          refine p_aload 1 rfl rfl rfl ?_
          refine p_getfi (j := 5) (z := gv h1 66 5) 4 rfl rfl rfl (tg_66 S1) rfl (by rw [e1, sv_nf (by decide)]) ?_
          refine p_if_eq 7 8 rfl rfl rfl (fun c3 => ?_) (fun c3 => ?_)
          · skip
            refine p_aload 9 rfl rfl rfl ?_
            refine p_iload 10 rfl rfl rfl ?_
            refine p_putfi (j := 5) 13 rfl rfl rfl (fun z => absurd z (by decide)) (tg_66 S1) rfl ?_
            refine p_nmh (fun y4 e4 => ?_)
            have S4 : Shape y4 := by rw [e4]; exact S1.svF ff_66_5 _
            refine p_aload 14 rfl rfl rfl ?_
            refine p_iload 15 rfl rfl rfl ?_
            refine p_putfi (j := 6) 18 rfl rfl rfl (fun z => absurd z (by decide)) (tg_66 S4) rfl ?_
            refine p_nmh (fun y5 e5 => ?_)
            have S5 : Shape y5 := by rw [e5]; exact S4.svF ff_66_6 _
            refine p_ret rfl rfl ?_
            show Wp (d + 2) 0 0 M_X12_number 156 [some (.inr (.inr 66)), some (.inl 0), some (.inl 9999), some (.inl ((tk L i).2.1)), some (.inl (nv T (tk L i).2.1 k))] [] y5 _
            refine p_iload 158 rfl rfl rfl ?_
            refine p_iret rfl rfl ?_
            -- leaf 2: answer [.inl (nv T (tk L i).2.1 k)] h=y5 e5,e4,e1
            exfalso; omega
          · skip
            refine p_ret rfl rfl ?_
            show Wp (d + 2) 0 0 M_X12_number 156 [some (.inr (.inr 66)), some (.inl 0), some (.inl 9999), some (.inl ((tk L i).2.1)), some (.inl (nv T (tk L i).2.1 k))] [] y1 _
            refine p_iload 158 rfl rfl rfl ?_
            refine p_iret rfl rfl ?_
            -- leaf 3: answer [.inl (nv T (tk L i).2.1 k)] h=y1 e1
            exfalso; omega
      by_cases z : x < n
      · have hT : gv h1 67 x = T x := (k1.1 67 _ rfl).trans (X.2 _ (by omega) z)
        refine p_aload 50 rfl rfl rfl ?_
        refine p_getfi (j := 2) (z := x) 53 rfl rfl rfl (tg_66 S1) rfl g2 ?_
        refine p_aload 54 rfl rfl rfl ?_
        refine p_getfi (j := 3) (z := n) 57 rfl rfl rfl (tg_66 S1) rfl hn ?_
        refine p_ic_ge_f 60 rfl rfl (by omega) ?_
        refine p_aload 61 rfl rfl rfl ?_
        refine p_getfr (j := 0) (z := 67) 64 rfl rfl rfl (tg_66 S1) rfl (fi_66_0 S1) ?_
        refine p_aload 65 rfl rfl rfl ?_
        refine p_getfi (j := 2) (z := x) 68 rfl rfl rfl (tg_66 S1) rfl g2 ?_
        refine p_iald (w := 700) (z := (T x)) 69 rfl rfl (tg_67 S1) (ln_67 S1) (by omega) (by omega) hT ?_
        refine p_calls (le := [some (.inl (T x))]) (as := [.inl (T x)]) (rest := []) 72 0 0 0 0 rfl rfl (Nat.le_of_ble_eq_true rfl) rfl (Nat.le_of_ble_eq_true rfl) rfl rfl (Nat.le_of_ble_eq_true rfl) rfl (Nat.le_of_ble_eq_true rfl) rfl (Nat.le_refl _) (Nat.le_refl _) rfl rfl ?_
        refine p_iload 1 rfl rfl rfl ?_
        refine p_const 3 rfl rfl ?_
        refine p_ic_lt 6 16 rfl rfl rfl (fun c1 => ?_) (fun c1 => ?_)
        · skip
          refine p_const 17 rfl rfl ?_
          refine p_zret rfl rfl (by decide) ?_
          show Wp (d + 2) 0 0 M_X12_number 72 [some (.inr (.inr 66)), some (.inl 0), some (.inl 9999), some (.inl ((tk L i).2.1)), some (.inl (nv T (tk L i).2.1 k))] [.inl 0] h1 _
          refine p_if_eq_t 129 rfl rfl (by decide) ?_
          -- leaf 1: loop 129 [some (.inr (.inr 66)), some (.inl 0), some (.inl 9999), some (.inl ((tk L i).2.1)), some (.inl (nv T (tk L i).2.1 k))] st=[] h=h1 
          first | exact fin | (exfalso; rw [← ex] at nd; exact nd ⟨by omega, by omega⟩)
        · skip
          refine p_iload 7 rfl rfl rfl ?_
          refine p_const 9 rfl rfl ?_
          refine p_ic_gt 12 16 rfl rfl rfl (fun c2 => ?_) (fun c2 => ?_)
          · skip
            refine p_const 17 rfl rfl ?_
            refine p_zret rfl rfl (by decide) ?_
            show Wp (d + 2) 0 0 M_X12_number 72 [some (.inr (.inr 66)), some (.inl 0), some (.inl 9999), some (.inl ((tk L i).2.1)), some (.inl (nv T (tk L i).2.1 k))] [.inl 0] h1 _
            refine p_if_eq_t 129 rfl rfl (by decide) ?_
            -- leaf 2: loop 129 [some (.inr (.inr 66)), some (.inl 0), some (.inl 9999), some (.inl ((tk L i).2.1)), some (.inl (nv T (tk L i).2.1 k))] st=[] h=h1 
            first | exact fin | (exfalso; rw [← ex] at nd; exact nd ⟨by omega, by omega⟩)
          · skip
            refine p_const 13 rfl rfl ?_
            refine p_goto 17 rfl rfl ?_
            refine p_zret rfl rfl (by decide) ?_
            show Wp (d + 2) 0 0 M_X12_number 72 [some (.inr (.inr 66)), some (.inl 0), some (.inl 9999), some (.inl ((tk L i).2.1)), some (.inl (nv T (tk L i).2.1 k))] [.inl 1] h1 _
            refine p_if_eq_f 75 rfl rfl (by decide) ?_
            refine p_aload 76 rfl rfl rfl ?_
            refine p_getfi (j := 2) (z := x) 79 rfl rfl rfl (tg_66 S1) rfl g2 ?_
            refine p_iload 80 rfl rfl rfl ?_
            refine p_isub (z := x - ((tk L i).2.1)) 81 rfl rfl (w32_id ⟨(by omega), (by omega)⟩) ?_
            refine p_const 82 rfl rfl ?_
            refine p_ic_ne 85 96 rfl rfl rfl (fun c3 => ?_) (fun c3 => ?_)
            · skip
              refine p_const 98 rfl rfl ?_
              refine p_iload 100 rfl rfl rfl ?_
              refine p_imul (z := 10 * (nv T (tk L i).2.1 k)) 101 rfl rfl (w32_id ⟨(by omega), (by omega)⟩) ?_
              refine p_aload 102 rfl rfl rfl ?_
              refine p_getfr (j := 0) (z := 67) 105 rfl rfl rfl (tg_66 S1) rfl (fi_66_0 S1) ?_
              refine p_aload 106 rfl rfl rfl ?_
              refine p_getfi (j := 2) (z := x) 109 rfl rfl rfl (tg_66 S1) rfl g2 ?_
              refine p_iald (w := 700) (z := (T x)) 110 rfl rfl (tg_67 S1) (ln_67 S1) (by omega) (by omega) hT ?_
              refine p_iadd (z := (10 * (nv T (tk L i).2.1 k)) + (T x)) 111 rfl rfl (w32_id ⟨(by omega), (by omega)⟩) ?_
              refine p_const 113 rfl rfl ?_
              refine p_isub (z := ((10 * (nv T (tk L i).2.1 k)) + (T x)) - 48) 114 rfl rfl (w32_id ⟨(by omega), (by omega)⟩) ?_
              refine p_nmi (fun v4 w4 => ?_)
              refine p_istore (ls' := [some (.inr (.inr 66)), some (.inl 0), some (.inl 9999), some (.inl ((tk L i).2.1)), some (.inl v4)]) 116 rfl rfl (Nat.le_of_ble_eq_true rfl) rfl ?_
              refine p_aload 117 rfl rfl rfl ?_
              refine p_dup 118 rfl rfl nl_r ?_
              refine p_getfi (j := 2) (z := x) 121 rfl rfl rfl (tg_66 S1) rfl g2 ?_
              refine p_const 122 rfl rfl ?_
              refine p_iadd (z := x + 1) 123 rfl rfl (w32_id ⟨(by omega), (by omega)⟩) ?_
              refine p_putfi (j := 2) 126 rfl rfl rfl (fun z => absurd z (by decide)) (tg_66 S1) rfl ?_
              refine p_nmh (fun y5 e5 => ?_)
              have S5 : Shape y5 := by rw [e5]; exact S1.svF ff_66_2 _
              refine p_goto 49 rfl rfl ?_
              -- leaf 3: loop 49 [some (.inr (.inr 66)), some (.inl 0), some (.inl 9999), some (.inl ((tk L i).2.1)), some (.inl v4)] st=[] h=y5 e5
              first | exact fin | (exfalso; rw [← ex] at nd; exact nd ⟨by omega, by omega⟩)
            · skip
              refine p_aload 86 rfl rfl rfl ?_
              refine p_const 87 rfl rfl ?_
              refine p_aload 88 rfl rfl rfl ?_
              refine p_getfi (j := 2) (z := x) 91 rfl rfl rfl (tg_66 S1) rfl g2 ?_
              refine p_callv (le := [some (.inr (.inr 66)), some (.inl 1), some (.inl x)]) (as := [.inr (.inr 66), .inl 1, .inl x]) (rest := []) 94 0 0 0 0 rfl rfl (Nat.le_of_ble_eq_true rfl) rfl (Nat.le_of_ble_eq_true rfl) rfl rfl (Nat.le_of_ble_eq_true rfl) rfl (Nat.le_of_ble_eq_true rfl) rfl (Nat.le_refl _) (Nat.le_refl _) rfl rfl (tg_66 S1) ?_
              refine p_aload 1 rfl rfl rfl ?_
              refine p_getfi (j := 5) (z := gv h1 66 5) 4 rfl rfl rfl (tg_66 S1) rfl rfl ?_
              refine p_if_eq 7 8 rfl rfl rfl (fun c6 => ?_) (fun c6 => ?_)
              · skip
                refine p_aload 9 rfl rfl rfl ?_
                refine p_iload 10 rfl rfl rfl ?_
                refine p_putfi (j := 5) 13 rfl rfl rfl (fun z => absurd z (by decide)) (tg_66 S1) rfl ?_
                refine p_nmh (fun y7 e7 => ?_)
                have S7 : Shape y7 := by rw [e7]; exact S1.svF ff_66_5 _
                refine p_aload 14 rfl rfl rfl ?_
                refine p_iload 15 rfl rfl rfl ?_
                refine p_putfi (j := 6) 18 rfl rfl rfl (fun z => absurd z (by decide)) (tg_66 S7) rfl ?_
                refine p_nmh (fun y8 e8 => ?_)
                have S8 : Shape y8 := by rw [e8]; exact S7.svF ff_66_6 _
                refine p_ret rfl rfl ?_
                show Wp (d + 2) 0 0 M_X12_number 94 [some (.inr (.inr 66)), some (.inl 0), some (.inl 9999), some (.inl ((tk L i).2.1)), some (.inl (nv T (tk L i).2.1 k))] [] y8 _
                refine p_const 95 rfl rfl ?_
                refine p_iret rfl rfl ?_
                -- leaf 4: answer [.inl 0] h=y8 e8,e7
                first | exact fin | (exfalso; rw [← ex] at nd; exact nd ⟨by omega, by omega⟩)
              · skip
                refine p_ret rfl rfl ?_
                show Wp (d + 2) 0 0 M_X12_number 94 [some (.inr (.inr 66)), some (.inl 0), some (.inl 9999), some (.inl ((tk L i).2.1)), some (.inl (nv T (tk L i).2.1 k))] [] h1 _
                refine p_const 95 rfl rfl ?_
                refine p_iret rfl rfl ?_
                -- leaf 5: answer [.inl 0] h=h1 
                first | exact fin | (exfalso; rw [← ex] at nd; exact nd ⟨by omega, by omega⟩)
      · skip
        refine p_aload 50 rfl rfl rfl ?_
        refine p_getfi (j := 2) (z := x) 53 rfl rfl rfl (tg_66 S1) rfl g2 ?_
        refine p_aload 54 rfl rfl rfl ?_
        refine p_getfi (j := 3) (z := n) 57 rfl rfl rfl (tg_66 S1) rfl hn ?_
        refine p_ic_ge_t 129 rfl rfl (by omega) ?_
        -- leaf 1: loop 129 [some (.inr (.inr 66)), some (.inl 0), some (.inl 9999), some (.inl ((tk L i).2.1)), some (.inl (nv T (tk L i).2.1 k))] st=[] h=h1 
        exact fin
    | succ c ih =>
      intro k x h1 k2 hend en hv hx hk k4 S1 k1 g2
      have hn : gv h1 66 3 = n := (k1.1 66 3 rfl).trans X.1
      have hT : gv h1 67 x = T x := (k1.1 67 _ rfl).trans (X.2 _ (by omega) (by omega))
      have h5 : gv h1 66 5 = 0 := (k1.1 66 5 rfl).trans b0
      have hd := hend.2.1 x (by omega) (by omega)
      have wi := nv_in (T := T) (p := (tk L i).2.1) (k := k) (fun j j0 j1 => hend.2.1 j j0 (by omega))
      have b4 : nv T (tk L i).2.1 k < 10000 := by
        have h1 : (10 : Nat) ^ k ≤ 10 ^ 4 := Nat.pow_le_pow_right (by decide) (by omega)
        have e1 : ((10 ^ k : Nat) : Int) = 10 ^ k := Int.natCast_pow 10 k
        have e2 : (10 : Nat) ^ 4 = 10000 := by decide
        omega
      have ev : nv T (tk L i).2.1 (k + 1) = 10 * nv T (tk L i).2.1 k + T x - 48 := by
        have z : nv T (tk L i).2.1 (k + 1) = nv T (tk L i).2.1 k * 10 + T ((tk L i).2.1 + k) - 48 := rfl
        rw [z, hk, Int.mul_comm]
      refine p_aload 50 rfl rfl rfl ?_
      refine p_getfi (j := 2) (z := x) 53 rfl rfl rfl (tg_66 S1) rfl g2 ?_
      refine p_aload 54 rfl rfl rfl ?_
      refine p_getfi (j := 3) (z := n) 57 rfl rfl rfl (tg_66 S1) rfl hn ?_
      refine p_ic_ge_f 60 rfl rfl (by omega) ?_
      refine p_aload 61 rfl rfl rfl ?_
      refine p_getfr (j := 0) (z := 67) 64 rfl rfl rfl (tg_66 S1) rfl (fi_66_0 S1) ?_
      refine p_aload 65 rfl rfl rfl ?_
      refine p_getfi (j := 2) (z := x) 68 rfl rfl rfl (tg_66 S1) rfl g2 ?_
      refine p_iald (w := 700) (z := (T x)) 69 rfl rfl (tg_67 S1) (ln_67 S1) (by omega) (by omega) hT ?_
      refine p_calls (le := [some (.inl (T x))]) (as := [.inl (T x)]) (rest := []) 72 0 0 0 0 rfl rfl (Nat.le_of_ble_eq_true rfl) rfl (Nat.le_of_ble_eq_true rfl) rfl rfl (Nat.le_of_ble_eq_true rfl) rfl (Nat.le_of_ble_eq_true rfl) rfl (Nat.le_refl _) (Nat.le_refl _) rfl rfl ?_
      refine p_iload 1 rfl rfl rfl ?_
      refine p_const 3 rfl rfl ?_
      refine p_ic_lt 6 16 rfl rfl rfl (fun c1 => ?_) (fun c1 => ?_)
      · skip
        refine p_const 17 rfl rfl ?_
        refine p_zret rfl rfl (by decide) ?_
        show Wp (d + 2) 0 0 M_X12_number 72 [some (.inr (.inr 66)), some (.inl 0), some (.inl 9999), some (.inl ((tk L i).2.1)), some (.inl (nv T (tk L i).2.1 k))] [.inl 0] h1 _
        refine p_if_eq_t 129 rfl rfl (by decide) ?_
        -- leaf 1: loop 129 [some (.inr (.inr 66)), some (.inl 0), some (.inl 9999), some (.inl ((tk L i).2.1)), some (.inl (nv T (tk L i).2.1 k))] st=[] h=h1 
        exfalso; omega
      · skip
        refine p_iload 7 rfl rfl rfl ?_
        refine p_const 9 rfl rfl ?_
        refine p_ic_gt 12 16 rfl rfl rfl (fun c2 => ?_) (fun c2 => ?_)
        · skip
          refine p_const 17 rfl rfl ?_
          refine p_zret rfl rfl (by decide) ?_
          show Wp (d + 2) 0 0 M_X12_number 72 [some (.inr (.inr 66)), some (.inl 0), some (.inl 9999), some (.inl ((tk L i).2.1)), some (.inl (nv T (tk L i).2.1 k))] [.inl 0] h1 _
          refine p_if_eq_t 129 rfl rfl (by decide) ?_
          -- leaf 2: loop 129 [some (.inr (.inr 66)), some (.inl 0), some (.inl 9999), some (.inl ((tk L i).2.1)), some (.inl (nv T (tk L i).2.1 k))] st=[] h=h1 
          exfalso; omega
        · skip
          refine p_const 13 rfl rfl ?_
          refine p_goto 17 rfl rfl ?_
          refine p_zret rfl rfl (by decide) ?_
          show Wp (d + 2) 0 0 M_X12_number 72 [some (.inr (.inr 66)), some (.inl 0), some (.inl 9999), some (.inl ((tk L i).2.1)), some (.inl (nv T (tk L i).2.1 k))] [.inl 1] h1 _
          refine p_if_eq_f 75 rfl rfl (by decide) ?_
          refine p_aload 76 rfl rfl rfl ?_
          refine p_getfi (j := 2) (z := x) 79 rfl rfl rfl (tg_66 S1) rfl g2 ?_
          refine p_iload 80 rfl rfl rfl ?_
          refine p_isub (z := x - ((tk L i).2.1)) 81 rfl rfl (w32_id ⟨(by omega), (by omega)⟩) ?_
          refine p_const 82 rfl rfl ?_
          refine p_ic_ne 85 96 rfl rfl rfl (fun c3 => ?_) (fun c3 => ?_)
          · skip
            refine p_const 98 rfl rfl ?_
            refine p_iload 100 rfl rfl rfl ?_
            refine p_imul (z := 10 * (nv T (tk L i).2.1 k)) 101 rfl rfl (w32_id ⟨(by omega), (by omega)⟩) ?_
            refine p_aload 102 rfl rfl rfl ?_
            refine p_getfr (j := 0) (z := 67) 105 rfl rfl rfl (tg_66 S1) rfl (fi_66_0 S1) ?_
            refine p_aload 106 rfl rfl rfl ?_
            refine p_getfi (j := 2) (z := x) 109 rfl rfl rfl (tg_66 S1) rfl g2 ?_
            refine p_iald (w := 700) (z := (T x)) 110 rfl rfl (tg_67 S1) (ln_67 S1) (by omega) (by omega) hT ?_
            refine p_iadd (z := (10 * (nv T (tk L i).2.1 k)) + (T x)) 111 rfl rfl (w32_id ⟨(by omega), (by omega)⟩) ?_
            refine p_const 113 rfl rfl ?_
            refine p_isub (z := ((10 * (nv T (tk L i).2.1 k)) + (T x)) - 48) 114 rfl rfl (w32_id ⟨(by omega), (by omega)⟩) ?_
            refine p_istore (ls' := [some (.inr (.inr 66)), some (.inl 0), some (.inl 9999), some (.inl ((tk L i).2.1)), some (.inl (((10 * (nv T (tk L i).2.1 k)) + (T x)) - 48))]) 116 rfl rfl (Nat.le_of_ble_eq_true rfl) rfl ?_
            refine p_aload 117 rfl rfl rfl ?_
            refine p_dup 118 rfl rfl nl_r ?_
            refine p_getfi (j := 2) (z := x) 121 rfl rfl rfl (tg_66 S1) rfl g2 ?_
            refine p_const 122 rfl rfl ?_
            refine p_iadd (z := x + 1) 123 rfl rfl (w32_id ⟨(by omega), (by omega)⟩) ?_
            refine p_putfi (j := 2) 126 rfl rfl rfl (fun z => absurd z (by decide)) (tg_66 S1) rfl ?_
            refine p_nmh (fun y4 e4 => ?_)
            have S4 : Shape y4 := by rw [e4]; exact S1.svF ff_66_2 _
            refine p_goto 49 rfl rfl ?_
            -- leaf 3: loop 49 [some (.inr (.inr 66)), some (.inl 0), some (.inl 9999), some (.inl ((tk L i).2.1)), some (.inl (((10 * (nv T (tk L i).2.1 k)) + (T x)) - 48))] st=[] h=y4 e4
            rw [← ev]
            exact ih (k + 1) (x + 1) _ k2 hend en hv (by omega) (by omega) (by omega) S4 (by rw [e4]; exact k1.sv rfl _) (by rw [e4, sv_eq])
          · skip
            refine p_aload 86 rfl rfl rfl ?_
            refine p_const 87 rfl rfl ?_
            refine p_aload 88 rfl rfl rfl ?_
            refine p_getfi (j := 2) (z := x) 91 rfl rfl rfl (tg_66 S1) rfl g2 ?_
            refine p_callv (le := [some (.inr (.inr 66)), some (.inl 1), some (.inl x)]) (as := [.inr (.inr 66), .inl 1, .inl x]) (rest := []) 94 0 0 0 0 rfl rfl (Nat.le_of_ble_eq_true rfl) rfl (Nat.le_of_ble_eq_true rfl) rfl rfl (Nat.le_of_ble_eq_true rfl) rfl (Nat.le_of_ble_eq_true rfl) rfl (Nat.le_refl _) (Nat.le_refl _) rfl rfl (tg_66 S1) ?_
            refine p_aload 1 rfl rfl rfl ?_
            refine p_getfi (j := 5) (z := 0) 4 rfl rfl rfl (tg_66 S1) rfl h5 ?_
            refine p_if_eq_t 8 rfl rfl (by decide) ?_
            refine p_aload 9 rfl rfl rfl ?_
            refine p_iload 10 rfl rfl rfl ?_
            refine p_putfi (j := 5) 13 rfl rfl rfl (fun z => absurd z (by decide)) (tg_66 S1) rfl ?_
            refine p_nmh (fun y5 e5 => ?_)
            have S5 : Shape y5 := by rw [e5]; exact S1.svF ff_66_5 _
            refine p_aload 14 rfl rfl rfl ?_
            refine p_iload 15 rfl rfl rfl ?_
            refine p_putfi (j := 6) 18 rfl rfl rfl (fun z => absurd z (by decide)) (tg_66 S5) rfl ?_
            refine p_nmh (fun y6 e6 => ?_)
            have S6 : Shape y6 := by rw [e6]; exact S5.svF ff_66_6 _
            refine p_ret rfl rfl ?_
            show Wp (d + 2) 0 0 M_X12_number 94 [some (.inr (.inr 66)), some (.inl 0), some (.inl 9999), some (.inl ((tk L i).2.1)), some (.inl (nv T (tk L i).2.1 k))] [] y6 _
            refine p_const 95 rfl rfl ?_
            refine p_iret rfl rfl ?_
            -- leaf 4: answer [.inl 0] h=y6 e6,e5
            exact K _ _ ⟨by rw [e6, e5]; exact ((k1.wide lukA_nmA).sv rfl _).sv rfl _, Or.inr (Or.inl ⟨k2, by omega, rfl, by rw [e6, sv_nf (by decide), e5, sv_eq], by rw [e6, sv_eq]; omega⟩)⟩ S6
  refine p_aload 1 rfl rfl rfl ?_
  refine p_getfi (j := 5) (z := gv h 66 5) 4 rfl rfl rfl (tg_66 S) rfl rfl ?_
  refine p_if_eq_t 9 rfl rfl (by omega) ?_
  refine p_aload 10 rfl rfl rfl ?_
  refine p_callv (le := [some (.inr (.inr 66))]) (as := [.inr (.inr 66)]) (rest := []) 13 0 0 0 0 rfl rfl (Nat.le_of_ble_eq_true rfl) rfl (Nat.le_of_ble_eq_true rfl) rfl rfl (Nat.le_of_ble_eq_true rfl) rfl (Nat.le_of_ble_eq_true rfl) rfl (Nat.le_refl _) (Nat.le_refl _) rfl rfl (tg_66 S) ?_
  refine m_lookT S O X LX M (fun r1 y1 p1 S1 => ?_)
  show Wp (d + 2) 0 0 M_X12_number 13 [some (.inr (.inr 66)), some (.inl 0), some (.inl 9999), none, none] [.inl r1] y1 _
  refine p_calls (le := [some (.inl r1)]) (as := [.inl r1]) (rest := []) 16 0 0 0 0 rfl rfl (Nat.le_of_ble_eq_true rfl) rfl (Nat.le_of_ble_eq_true rfl) rfl rfl (Nat.le_of_ble_eq_true rfl) rfl (Nat.le_of_ble_eq_true rfl) rfl (Nat.le_refl _) (Nat.le_refl _) rfl rfl ?_
  refine p_iload 1 rfl rfl rfl ?_
  refine p_const 3 rfl rfl ?_
  obtain ⟨kl, re, M2, g2⟩ := p1
  have k2n := TA.num
  have b1 : gv y1 66 5 = 0 := (kl.1 66 5 rfl).trans b0
  refine p_ic_lt 6 16 rfl rfl rfl (fun c2 => ?_) (fun c2 => ?_)
  · skip
    refine p_const 17 rfl rfl ?_
    refine p_zret rfl rfl (by decide) ?_
    show Wp (d + 2) 0 0 M_X12_number 16 [some (.inr (.inr 66)), some (.inl 0), some (.inl 9999), none, none] [.inl 0] y1 _
    refine p_if_eq_t 30 rfl rfl (by decide) ?_
    refine p_aload 31 rfl rfl rfl ?_
    refine p_const 32 rfl rfl ?_
    refine p_aload 33 rfl rfl rfl ?_
    refine p_getfi (j := 2) (z := gv y1 66 2) 36 rfl rfl rfl (tg_66 S1) rfl rfl ?_
    refine p_callv (le := [some (.inr (.inr 66)), some (.inl 1), some (.inl (gv y1 66 2))]) (as := [.inr (.inr 66), .inl 1, .inl (gv y1 66 2)]) (rest := []) 39 0 0 0 0 rfl rfl (Nat.le_of_ble_eq_true rfl) rfl (Nat.le_of_ble_eq_true rfl) rfl rfl (Nat.le_of_ble_eq_true rfl) rfl (Nat.le_of_ble_eq_true rfl) rfl (Nat.le_refl _) (Nat.le_refl _) rfl rfl (tg_66 S1) ?_
    refine p_aload 1 rfl rfl rfl ?_
    refine p_getfi (j := 5) (z := gv y1 66 5) 4 rfl rfl rfl (tg_66 S1) rfl rfl ?_
    refine p_if_eq 7 8 rfl rfl rfl (fun c3 => ?_) (fun c3 => ?_)
    · skip
      refine p_aload 9 rfl rfl rfl ?_
      refine p_iload 10 rfl rfl rfl ?_
      refine p_putfi (j := 5) 13 rfl rfl rfl (fun z => absurd z (by decide)) (tg_66 S1) rfl ?_
      refine p_nmh (fun y4 e4 => ?_)
      have S4 : Shape y4 := by rw [e4]; exact S1.svF ff_66_5 _
      refine p_aload 14 rfl rfl rfl ?_
      refine p_iload 15 rfl rfl rfl ?_
      refine p_putfi (j := 6) 18 rfl rfl rfl (fun z => absurd z (by decide)) (tg_66 S4) rfl ?_
      refine p_nmh (fun y5 e5 => ?_)
      have S5 : Shape y5 := by rw [e5]; exact S4.svF ff_66_6 _
      refine p_ret rfl rfl ?_
      show Wp (d + 2) 0 0 M_X12_number 39 [some (.inr (.inr 66)), some (.inl 0), some (.inl 9999), none, none] [] y5 _
      refine p_const 40 rfl rfl ?_
      refine p_iret rfl rfl ?_
      -- leaf 1: answer [.inl 0] h=y5 e5,e4
      exact K _ _ ⟨by rw [e5, e4]; exact ((kl.wide lukA_nmA).sv rfl _).sv rfl _, Or.inr (Or.inr ⟨fun z => by have := k2n z; omega, rfl, by rw [e5, sv_nf (by decide), e4, sv_eq], by rw [e5, sv_eq]; exact g2⟩)⟩ S5
    · skip
      refine p_ret rfl rfl ?_
      show Wp (d + 2) 0 0 M_X12_number 39 [some (.inr (.inr 66)), some (.inl 0), some (.inl 9999), none, none] [] y1 _
      refine p_const 40 rfl rfl ?_
      refine p_iret rfl rfl ?_
      -- leaf 2: answer [.inl 0] h=y1 
      exfalso; omega
  · skip
    refine p_iload 7 rfl rfl rfl ?_
    refine p_const 9 rfl rfl ?_
    refine p_ic_gt 12 16 rfl rfl rfl (fun c6 => ?_) (fun c6 => ?_)
    · skip
      refine p_const 17 rfl rfl ?_
      refine p_zret rfl rfl (by decide) ?_
      show Wp (d + 2) 0 0 M_X12_number 16 [some (.inr (.inr 66)), some (.inl 0), some (.inl 9999), none, none] [.inl 0] y1 _
      refine p_if_eq_t 30 rfl rfl (by decide) ?_
      refine p_aload 31 rfl rfl rfl ?_
      refine p_const 32 rfl rfl ?_
      refine p_aload 33 rfl rfl rfl ?_
      refine p_getfi (j := 2) (z := gv y1 66 2) 36 rfl rfl rfl (tg_66 S1) rfl rfl ?_
      refine p_callv (le := [some (.inr (.inr 66)), some (.inl 1), some (.inl (gv y1 66 2))]) (as := [.inr (.inr 66), .inl 1, .inl (gv y1 66 2)]) (rest := []) 39 0 0 0 0 rfl rfl (Nat.le_of_ble_eq_true rfl) rfl (Nat.le_of_ble_eq_true rfl) rfl rfl (Nat.le_of_ble_eq_true rfl) rfl (Nat.le_of_ble_eq_true rfl) rfl (Nat.le_refl _) (Nat.le_refl _) rfl rfl (tg_66 S1) ?_
      refine p_aload 1 rfl rfl rfl ?_
      refine p_getfi (j := 5) (z := gv y1 66 5) 4 rfl rfl rfl (tg_66 S1) rfl rfl ?_
      refine p_if_eq 7 8 rfl rfl rfl (fun c7 => ?_) (fun c7 => ?_)
      · skip
        refine p_aload 9 rfl rfl rfl ?_
        refine p_iload 10 rfl rfl rfl ?_
        refine p_putfi (j := 5) 13 rfl rfl rfl (fun z => absurd z (by decide)) (tg_66 S1) rfl ?_
        refine p_nmh (fun y8 e8 => ?_)
        have S8 : Shape y8 := by rw [e8]; exact S1.svF ff_66_5 _
        refine p_aload 14 rfl rfl rfl ?_
        refine p_iload 15 rfl rfl rfl ?_
        refine p_putfi (j := 6) 18 rfl rfl rfl (fun z => absurd z (by decide)) (tg_66 S8) rfl ?_
        refine p_nmh (fun y9 e9 => ?_)
        have S9 : Shape y9 := by rw [e9]; exact S8.svF ff_66_6 _
        refine p_ret rfl rfl ?_
        show Wp (d + 2) 0 0 M_X12_number 39 [some (.inr (.inr 66)), some (.inl 0), some (.inl 9999), none, none] [] y9 _
        refine p_const 40 rfl rfl ?_
        refine p_iret rfl rfl ?_
        -- leaf 3: answer [.inl 0] h=y9 e9,e8
        exact K _ _ ⟨by rw [e9, e8]; exact ((kl.wide lukA_nmA).sv rfl _).sv rfl _, Or.inr (Or.inr ⟨fun z => by have := k2n z; omega, rfl, by rw [e9, sv_nf (by decide), e8, sv_eq], by rw [e9, sv_eq]; exact g2⟩)⟩ S9
      · skip
        refine p_ret rfl rfl ?_
        show Wp (d + 2) 0 0 M_X12_number 39 [some (.inr (.inr 66)), some (.inl 0), some (.inl 9999), none, none] [] y1 _
        refine p_const 40 rfl rfl ?_
        refine p_iret rfl rfl ?_
        -- leaf 4: answer [.inl 0] h=y1 
        exfalso; omega
    · skip
      refine p_const 13 rfl rfl ?_
      refine p_goto 17 rfl rfl ?_
      refine p_zret rfl rfl (by decide) ?_
      show Wp (d + 2) 0 0 M_X12_number 16 [some (.inr (.inr 66)), some (.inl 0), some (.inl 9999), none, none] [.inl 1] y1 _
      refine p_if_eq_f 19 rfl rfl (by decide) ?_
      refine p_aload 20 rfl rfl rfl ?_
      refine p_getfi (j := 2) (z := gv y1 66 2) 23 rfl rfl rfl (tg_66 S1) rfl rfl ?_
      refine p_aload 24 rfl rfl rfl ?_
      refine p_getfi (j := 4) (z := gv y1 66 4) 27 rfl rfl rfl (tg_66 S1) rfl rfl ?_
      refine p_ic_ne 30 41 rfl rfl rfl (fun c10 => ?_) (fun c10 => ?_)
      · skip
        refine p_aload 42 rfl rfl rfl ?_
        refine p_getfi (j := 2) (z := gv y1 66 2) 45 rfl rfl rfl (tg_66 S1) rfl rfl ?_
        refine p_istore (ls' := [some (.inr (.inr 66)), some (.inl 0), some (.inl 9999), some (.inl (gv y1 66 2)), none]) 46 rfl rfl (Nat.le_of_ble_eq_true rfl) rfl ?_
        refine p_const 47 rfl rfl ?_
        refine p_istore (ls' := [some (.inr (.inr 66)), some (.inl 0), some (.inl 9999), some (.inl (gv y1 66 2)), some (.inl 0)]) 49 rfl rfl (Nat.le_of_ble_eq_true rfl) rfl ?_
        -- leaf 5: loop 49 [some (.inr (.inr 66)), some (.inl 0), some (.inl 9999), some (.inl (gv y1 66 2)), some (.inl 0)] st=[] h=y1 
        have dg : isDig (T (tk L i).2.1) := ⟨by omega, by omega⟩
        obtain ⟨k25, hend, hv, en⟩ := TA.dig O dg
        have rt := M2.2.2.2 (Or.inr ⟨dg, p3⟩)
        have k2 : (tk L i).1 = 2 := by
          rcases k25 with z | z
          · exact z
          · exact absurd (rt.2 z) (by omega)
        rw [g2]
        exact J49 ((tk L i).2.2.1 - (tk L i).2.1).toNat 0 _ _ k2 hend en hv (by have := hend.1; omega) (by omega) (by decide) S1 kl g2
      · skip
        refine p_aload 31 rfl rfl rfl ?_
        refine p_const 32 rfl rfl ?_
        refine p_aload 33 rfl rfl rfl ?_
        refine p_getfi (j := 2) (z := gv y1 66 2) 36 rfl rfl rfl (tg_66 S1) rfl rfl ?_
        refine p_callv (le := [some (.inr (.inr 66)), some (.inl 1), some (.inl (gv y1 66 2))]) (as := [.inr (.inr 66), .inl 1, .inl (gv y1 66 2)]) (rest := []) 39 0 0 0 0 rfl rfl (Nat.le_of_ble_eq_true rfl) rfl (Nat.le_of_ble_eq_true rfl) rfl rfl (Nat.le_of_ble_eq_true rfl) rfl (Nat.le_of_ble_eq_true rfl) rfl (Nat.le_refl _) (Nat.le_refl _) rfl rfl (tg_66 S1) ?_
        refine p_aload 1 rfl rfl rfl ?_
        refine p_getfi (j := 5) (z := gv y1 66 5) 4 rfl rfl rfl (tg_66 S1) rfl rfl ?_
        refine p_if_eq 7 8 rfl rfl rfl (fun c11 => ?_) (fun c11 => ?_)
        · skip
          refine p_aload 9 rfl rfl rfl ?_
          refine p_iload 10 rfl rfl rfl ?_
          refine p_putfi (j := 5) 13 rfl rfl rfl (fun z => absurd z (by decide)) (tg_66 S1) rfl ?_
          refine p_nmh (fun y12 e12 => ?_)
          have S12 : Shape y12 := by rw [e12]; exact S1.svF ff_66_5 _
          refine p_aload 14 rfl rfl rfl ?_
          refine p_iload 15 rfl rfl rfl ?_
          refine p_putfi (j := 6) 18 rfl rfl rfl (fun z => absurd z (by decide)) (tg_66 S12) rfl ?_
          refine p_nmh (fun y13 e13 => ?_)
          have S13 : Shape y13 := by rw [e13]; exact S12.svF ff_66_6 _
          refine p_ret rfl rfl ?_
          show Wp (d + 2) 0 0 M_X12_number 39 [some (.inr (.inr 66)), some (.inl 0), some (.inl 9999), none, none] [] y13 _
          refine p_const 40 rfl rfl ?_
          refine p_iret rfl rfl ?_
          -- leaf 6: answer [.inl 0] h=y13 e13,e12
          have dg : isDig (T (tk L i).2.1) := ⟨by omega, by omega⟩
          have rt := M2.2.2.2 (Or.inr ⟨dg, p3⟩)
          exact K _ _ ⟨by rw [e13, e12]; exact ((kl.wide lukA_nmA).sv rfl _).sv rfl _, Or.inr (Or.inr ⟨fun z => by have := rt.1 (by omega); omega, rfl, by rw [e13, sv_nf (by decide), e12, sv_eq], by rw [e13, sv_eq]; exact g2⟩)⟩ S13
        · skip
          refine p_ret rfl rfl ?_
          show Wp (d + 2) 0 0 M_X12_number 39 [some (.inr (.inr 66)), some (.inl 0), some (.inl 9999), none, none] [] y1 _
          refine p_const 40 rfl rfl ?_
          refine p_iret rfl rfl ?_
          -- leaf 7: answer [.inl 0] h=y1 
          exfalso; omega

