/-! THE LINE, the class's side: start, minutes, line -/
theorem x_isBusy {d : Nat} {h : PH} {q : PQ} {last : Int} {u : LnS} (S : Shape h) (X : LX h last u) (l0 : 0 ≤ last) (l9 : last ≤ 9) (K1 : busy last u → q (some (.inl 1)) h) (K2 : ¬ busy last u → q (some (.inl 0)) h) :
    Wp (d + 1) 0 0 M_X6_isBusy 0 [some (.inr (.inr 38)), none] [] h q := by
  obtain ⟨X1, X2, X3, X4, X5⟩ := X
  have L : ∀ (c : Nat) (s : Int), s + c = last → 0 ≤ s → (∀ x, 0 ≤ x → x < s → Lal u x = 0 ∧ Lq u x = []) → Wp (d + 1) 0 0 M_X6_isBusy 2 [some (.inr (.inr 38)), some (.inl s)] [] h q := by
    intro c
    induction c with
    | zero =>
      intro s hs s0 no
      have nb : ¬ busy last u := fun ⟨x, ⟨x0, x1⟩, y⟩ => by
        obtain ⟨n1, n2⟩ := no x x0 (by omega)
        rcases y with y | y
        · exact y n1
        · exact y n2
      refine p_iload 3 rfl rfl rfl ?_
      refine p_aload 4 rfl rfl rfl ?_
      refine p_getfi (j := 3) (z := last) 7 rfl rfl rfl (tg_38 S) rfl X1 ?_
      refine p_ic_ge_t 48 rfl rfl (by omega) ?_
      refine p_const 49 rfl rfl ?_
      refine p_zret rfl rfl (by decide) ?_
      -- leaf 1: answer [.inl 0] h=h 
      exact K2 nb
    | succ c ih =>
      intro s hs s0 no
      obtain ⟨q1, q2, q3⟩ := X2 s s0 (by omega)
      have e51 := (X3 s s0 (by omega)).1
      refine p_iload 3 rfl rfl rfl ?_
      refine p_aload 4 rfl rfl rfl ?_
      refine p_getfi (j := 3) (z := last) 7 rfl rfl rfl (tg_38 S) rfl X1 ?_
      refine p_ic_ge_f 10 rfl rfl (by omega) ?_
      refine p_iload 11 rfl rfl rfl ?_
      refine p_const 13 rfl rfl ?_
      refine p_ic_ge_f 16 rfl rfl (by omega) ?_
      refine p_aload 17 rfl rfl rfl ?_
      refine p_getfr (j := 7) (z := 51) 20 rfl rfl rfl (tg_38 S) rfl (fi_38_7 S) ?_
      refine p_iload 21 rfl rfl rfl ?_
      refine p_iald (w := 10) (z := (Lal u s)) 22 rfl rfl (tg_51 S) (ln_51 S) (by omega) (by omega) e51 ?_
      refine p_if_ne 25 40 rfl rfl rfl (fun c1 => ?_) (fun c1 => ?_)
      · skip
        refine p_const 41 rfl rfl ?_
        refine p_zret rfl rfl (by decide) ?_
        -- leaf 1: answer [.inl 1] h=h 
        exact K1 ⟨s, ⟨s0, by omega⟩, Or.inl (by assumption)⟩
      · skip
        refine p_aload 26 rfl rfl rfl ?_
        refine p_getfr (j := 5) (z := 49) 29 rfl rfl rfl (tg_38 S) rfl (fi_38_5 S) ?_
        refine p_iload 30 rfl rfl rfl ?_
        refine p_iald (w := 10) (z := (Ltl u s - (Lq u s).length)) 31 rfl rfl (tg_49 S) (ln_49 S) (by omega) (by omega) q2 ?_
        refine p_aload 32 rfl rfl rfl ?_
        refine p_getfr (j := 6) (z := 50) 35 rfl rfl rfl (tg_38 S) rfl (fi_38_6 S) ?_
        refine p_iload 36 rfl rfl rfl ?_
        refine p_iald (w := 10) (z := (Ltl u s)) 37 rfl rfl (tg_50 S) (ln_50 S) (by omega) (by omega) q1 ?_
        refine p_ic_ge 40 42 rfl rfl rfl (fun c2 => ?_) (fun c2 => ?_)
        · skip
          refine p_iinc (y := s + 1) (ls' := [some (.inr (.inr 38)), some (.inl (s + 1))]) 45 rfl rfl rfl (w32_id ⟨(by omega), (by omega)⟩) rfl ?_
          refine p_goto 2 rfl rfl ?_
          -- leaf 2: loop 2 [some (.inr (.inr 38)), some (.inl (s + 1))] st=[] h=h 
          refine ih (s + 1) (by omega) (by omega) (fun x x0 x1 => ?_)
          by_cases z : x = s
          · subst z
            refine ⟨by omega, ?_⟩
            apply Classical.byContradiction
            intro n
            have := List.length_pos_iff.mpr n
            omega
          · exact no x x0 (by omega)
        · skip
          refine p_const 41 rfl rfl ?_
          refine p_zret rfl rfl (by decide) ?_
          -- leaf 3: answer [.inl 1] h=h 
          refine K1 ⟨s, ⟨s0, by omega⟩, Or.inr (fun n => ?_)⟩
          have : ((Lq u s).length : Int) = 0 := by rw [n]; rfl
          omega
  refine p_const 1 rfl rfl ?_
  refine p_istore (ls' := [some (.inr (.inr 38)), some (.inl 0)]) 2 rfl rfl (Nat.le_of_ble_eq_true rfl) rfl ?_
  -- leaf 1: loop 2 [some (.inr (.inr 38)), some (.inl 0)] st=[] h=h 
  exact L last.toNat 0 (by omega) (by omega) (fun x x0 x1 => by omega)
theorem x_start {d : Nat} {h : PH} {q : PQ} (S : Shape h) (last : Int) {n : Int} {B : Int → Q4t} {hst : Int → Int} {pln : Int → Prop} (l1 : 1 ≤ last) (l9 : last ≤ 9) (ok : ∀ i, 0 ≤ i → i ≤ n → bOk hst pln n B i) (hn : gv h 32 3 = n) (n1 : 1 ≤ n) (n12 : n ≤ 12) (ce : ∀ i, 0 ≤ i → i ≤ n → PXn h n i (B i)) (b0 : (B 0).1 < 1000)
    (K : ∀ h', (Keep lxA h h' ∧ LX h' last (l0 (pth B n n.toNat 0))) → Shape h' → q none h') :
    Wp (d + 2) 0 0 M_X6_start 0 [some (.inr (.inr 38)), some (.inl last), none] [] h q := by
  have len0 := pth_len ok n.toNat 0 (by omega) (Int.le_refl 0) (by omega) b0
  have bb0 : 0 ≤ (B 0).1 ∧ (B 0).1 ≤ 12 := by
    rcases ok 0 (Int.le_refl 0) (by omega) with y | ⟨y, _⟩ <;> omega
  have L : ∀ (c : Nat) (s : Int) (h1 : PH), s + c = 10 → 0 ≤ s → Shape h1 → Keep lxA h h1 → (∀ a i, a = 32 ∨ (34 ≤ a ∧ a ≤ 37) → gv h1 a i = gv h a i) → gv h1 38 3 = last → gv h1 38 15 = 0 → (∀ i, 0 ≤ i → i < 10 → gv h1 49 i = 0 ∧ gv h1 50 i = 0 ∧ gv h1 51 i = 0 ∧ gv h1 54 i = 0 ∧ gv h1 55 i = -1 ∧ gv h1 56 i = 0) → (∀ i, 0 ≤ i → i < s → gv h1 53 i = 0 ∧ gv h1 57 i = 0) →
      Wp (d + 2) 0 0 M_X6_start 60 [some (.inr (.inr 38)), some (.inl last), some (.inl s)] [] h1 q := by
    intro c
    induction c with
    | zero =>
      intro s h1 hs s0 S1 kp o b3 b15 al bl
      refine p_iload 61 rfl rfl rfl ?_
      refine p_const 63 rfl rfl ?_
      refine p_ic_ge_t 86 rfl rfl (by omega) ?_
      refine p_aload 87 rfl rfl rfl ?_
      refine p_getfr (j := 6) (z := 50) 90 rfl rfl rfl (tg_38 S1) rfl (fi_38_6 S1) ?_
      refine p_const 91 rfl rfl ?_
      refine p_aload 92 rfl rfl rfl ?_
      refine p_getfr (j := 2) (z := 32) 95 rfl rfl rfl (tg_38 S1) rfl (fi_38_2 S1) ?_
      refine p_aload 96 rfl rfl rfl ?_
      refine p_getfr (j := 4) (z := 39) 99 rfl rfl rfl (tg_38 S1) rfl (fi_38_4 S1) ?_
      refine p_const 100 rfl rfl ?_
      refine p_aald (w := 9) (z := 40 + 0) 101 rfl rfl (Or.inr (tg_39 S1)) (ln_39 S1) (by decide) (by decide) (S1.2.2.2 _ (by omega) (by omega)) ?_
      refine p_const 102 rfl rfl ?_
      refine p_callv (le := [some (.inr (.inr 32)), some (.inr (.inr (40 + 0))), some (.inl 0), none, none, none]) (as := [.inr (.inr 32), .inr (.inr (40 + 0)), .inl 0]) (rest := [.inl 0, .inr (.inr 50)]) 105 0 0 0 0 rfl rfl (Nat.le_of_ble_eq_true rfl) rfl (Nat.le_of_ble_eq_true rfl) rfl rfl (Nat.le_of_ble_eq_true rfl) rfl (Nat.le_of_ble_eq_true rfl) rfl (Nat.le_refl _) (Nat.le_refl _) rfl rfl (tg_32 S1) ?_
      refine x_copy S1 (40 + 0) 0 (fun h S i v => S.svA (row_fa (by decide) (by decide)) i v) (by decide) (row_tg S1 (by decide) (by decide)) (row_ln S1 (by decide) (by decide)) (by decide) ok ((o 32 3 (Or.inl rfl)).trans hn) n1 n12 (fun i i0 i1 => (ce i i0 i1).kp (fun a a0 a1 => o a i (Or.inr ⟨a0, a1⟩))) b0 (by decide) (by omega) (fun r1 y1 p1 S1 => ?_)
      show Wp (d + 2) 0 0 M_X6_start 105 [some (.inr (.inr 38)), some (.inl last), some (.inl s)] [.inl r1, .inl 0, .inr (.inr 50)] y1 _
      refine p_iast (w := 10) 106 rfl rfl (by decide) (tg_50 S1) (ln_50 S1) (by decide) (by decide) ?_
      refine p_nmh (fun y2 e2 => ?_)
      have S2 : Shape y2 := by rw [e2]; exact S1.svA fa_50 _ _
      refine p_ret rfl rfl ?_
      -- leaf 1: answer [] h=y2 e2
      obtain ⟨k1, er1, o1, w1⟩ := p1
      have f1 : ∀ b i, b ≠ 40 + 0 → gv y1 b i = gv h1 b i := fun b i hb => k1.1 b i (decide_eq_false hb)
      refine K _ ⟨by rw [e2]; exact (kp.trans (k1.wide (fun b i z => decide_eq_false (fun y => of_decide_eq_false z (by omega))))).sv rfl _, ?_, fun x x0 x1 => ?_, fun x x0 x1 => ?_, ?_, fun j w hj => by cases hj⟩ S2
      · rw [e2, sv_ne (by decide), f1 _ _ (by decide)]; exact b3
      · show QX _ x (if x = 0 then pth B n n.toNat 0 else []) (if x = 0 then ((pth B n n.toNat 0).length : Int) else 0)
        have ax := al x x0 (by omega)
        by_cases z : x = 0
        · subst z
          rw [if_pos rfl, if_pos rfl]
          refine ⟨by rw [e2, sv_eq]; omega, by rw [e2, sv_ne (by decide), f1 _ _ (by decide)]; omega, fun j w hj => ?_⟩
          have y := w1 j w hj
          rw [e2, sv_ne (by decide), show ((pth B n n.toNat 0).length : Int) - ((pth B n n.toNat 0).length : Int) + (j : Int) = 0 + (j : Int) by omega]; exact y
        · rw [if_neg z, if_neg z]
          refine ⟨by rw [e2, sv_nf z, f1 _ _ (by decide)]; exact ax.2.1, by rw [e2, sv_ne (by decide), f1 _ _ (by decide)]; exact ax.1, fun j w hj => by cases hj⟩
      · have ax := al x x0 (by omega)
        have bx := bl x x0 (by omega)
        exact ⟨by rw [e2, sv_ne (by decide), f1 _ _ (by decide)]; exact ax.2.2.1, fun z => absurd rfl z, by rw [e2, sv_ne (by decide), f1 _ _ (by decide)]; exact bx.1, by rw [e2, sv_ne (by decide), f1 _ _ (by decide)]; exact ax.2.2.2.1, by rw [e2, sv_ne (by decide), f1 _ _ (by decide)]; exact ax.2.2.2.2.1, by rw [e2, sv_ne (by decide), f1 _ _ (by decide)]; exact ax.2.2.2.2.2, by rw [e2, sv_ne (by decide), f1 _ _ (by decide)]; exact bx.2⟩
      · rw [e2, sv_ne (by decide), f1 _ _ (by decide)]; exact b15
    | succ c ih =>
      intro s h1 hs s0 S1 kp o b3 b15 al bl
      refine p_iload 61 rfl rfl rfl ?_
      refine p_const 63 rfl rfl ?_
      refine p_ic_ge_f 66 rfl rfl (by omega) ?_
      refine p_aload 67 rfl rfl rfl ?_
      refine p_getfr (j := 9) (z := 53) 70 rfl rfl rfl (tg_38 S1) rfl (fi_38_9 S1) ?_
      refine p_iload 71 rfl rfl rfl ?_
      refine p_const 72 rfl rfl ?_
      refine p_zast (w := 10) 73 rfl rfl (by decide) (tg_53 S1) (ln_53 S1) (by omega) (by omega) (by decide) ?_
      refine p_nmh (fun y1 e1 => ?_)
      have S1 : Shape y1 := by rw [e1]; exact S1.svA fa_53 _ _
      have kp1 : Keep lxA h y1 := by rw [e1]; exact kp.sv rfl _
      refine p_aload 74 rfl rfl rfl ?_
      refine p_getfr (j := 13) (z := 57) 77 rfl rfl rfl (tg_38 S1) rfl (fi_38_13 S1) ?_
      refine p_iload 78 rfl rfl rfl ?_
      refine p_const 79 rfl rfl ?_
      refine p_zast (w := 10) 80 rfl rfl (by decide) (tg_57 S1) (ln_57 S1) (by omega) (by omega) (by decide) ?_
      refine p_nmh (fun y2 e2 => ?_)
      have S2 : Shape y2 := by rw [e2]; exact S1.svA fa_57 _ _
      have kp2 : Keep lxA h y2 := by rw [e2]; exact kp1.sv rfl _
      refine p_iinc (y := s + 1) (ls' := [some (.inr (.inr 38)), some (.inl last), some (.inl (s + 1))]) 83 rfl rfl rfl (w32_id ⟨(by omega), (by omega)⟩) rfl ?_
      refine p_goto 60 rfl rfl ?_
      -- leaf 1: loop 60 [some (.inr (.inr 38)), some (.inl last), some (.inl (s + 1))] st=[] h=y2 e2,e1 kp2
      have e : ∀ b i, b ≠ 53 → b ≠ 57 → gv y2 b i = gv h1 b i := fun b i n1 n2 => by rw [e2, sv_ne n2, e1, sv_ne n1]
      refine ih (s + 1) _ (by omega) (by omega) S2 kp2 (fun a i z => by rw [e a i (by omega) (by omega)]; exact o a i z) ((e 38 3 (by decide) (by decide)).trans b3) ((e 38 15 (by decide) (by decide)).trans b15) (fun i i0 i1 => ?_) (fun i i0 i1 => ?_)
      · rw [e 49 i (by decide) (by decide), e 50 i (by decide) (by decide), e 51 i (by decide) (by decide), e 54 i (by decide) (by decide), e 55 i (by decide) (by decide), e 56 i (by decide) (by decide)]; exact al i i0 i1
      · by_cases z : i = s
        · rw [z]; exact ⟨by rw [e2, sv_ne (by decide), e1, sv_eq], by rw [e2, sv_eq]⟩
        · rw [e2, sv_ne (by decide), sv_nf z, e1, sv_nf z, sv_ne (by decide)]; exact bl i i0 (by omega)
  refine p_aload 1 rfl rfl rfl ?_
  refine p_iload 2 rfl rfl rfl ?_
  refine p_putfi (j := 3) 5 rfl rfl rfl (fun z => absurd z (by decide)) (tg_38 S) rfl ?_
  refine p_nmh (fun y1 e1 => ?_)
  have S1 : Shape y1 := by rw [e1]; exact S.svF ff_38_3 _
  refine p_aload 6 rfl rfl rfl ?_
  refine p_const 7 rfl rfl ?_
  refine p_putfi (j := 15) 10 rfl rfl rfl (fun z => absurd z (by decide)) (tg_38 S1) rfl ?_
  refine p_nmh (fun y2 e2 => ?_)
  have S2 : Shape y2 := by rw [e2]; exact S1.svF ff_38_15 _
  refine p_aload 11 rfl rfl rfl ?_
  refine p_getfr (j := 5) (z := 49) 14 rfl rfl rfl (tg_38 S2) rfl (fi_38_5 S2) ?_
  refine p_const 15 rfl rfl ?_
  refine p_calls (le := [some (.inr (.inr 49)), some (.inl 0), none, none]) (as := [.inr (.inr 49), .inl 0]) (rest := []) 18 0 0 0 0 rfl rfl (Nat.le_of_ble_eq_true rfl) rfl (Nat.le_of_ble_eq_true rfl) rfl rfl (Nat.le_of_ble_eq_true rfl) rfl (Nat.le_of_ble_eq_true rfl) rfl (Nat.le_refl _) (Nat.le_refl _) rfl rfl ?_
  refine x_fillI S2 49 0 (_) ((by decide)) (fa_49) ((tg_49 S2)) ((ln_49 S2)) ((by decide)) ((by decide)) (fun y3 p3 S3 => ?_)
  show Wp (d + 2) 0 0 M_X6_start 18 [some (.inr (.inr 38)), some (.inl last), none] [] y3 _
  refine p_aload 19 rfl rfl rfl ?_
  refine p_getfr (j := 6) (z := 50) 22 rfl rfl rfl (tg_38 S3) rfl (fi_38_6 S3) ?_
  refine p_const 23 rfl rfl ?_
  refine p_calls (le := [some (.inr (.inr 50)), some (.inl 0), none, none]) (as := [.inr (.inr 50), .inl 0]) (rest := []) 26 0 0 0 0 rfl rfl (Nat.le_of_ble_eq_true rfl) rfl (Nat.le_of_ble_eq_true rfl) rfl rfl (Nat.le_of_ble_eq_true rfl) rfl (Nat.le_of_ble_eq_true rfl) rfl (Nat.le_refl _) (Nat.le_refl _) rfl rfl ?_
  refine x_fillI S3 50 0 (_) ((by decide)) (fa_50) ((tg_50 S3)) ((ln_50 S3)) ((by decide)) ((by decide)) (fun y4 p4 S4 => ?_)
  show Wp (d + 2) 0 0 M_X6_start 26 [some (.inr (.inr 38)), some (.inl last), none] [] y4 _
  refine p_aload 27 rfl rfl rfl ?_
  refine p_getfr (j := 7) (z := 51) 30 rfl rfl rfl (tg_38 S4) rfl (fi_38_7 S4) ?_
  refine p_const 31 rfl rfl ?_
  refine p_calls (le := [some (.inr (.inr 51)), some (.inl 0), none, none]) (as := [.inr (.inr 51), .inl 0]) (rest := []) 34 0 0 0 0 rfl rfl (Nat.le_of_ble_eq_true rfl) rfl (Nat.le_of_ble_eq_true rfl) rfl rfl (Nat.le_of_ble_eq_true rfl) rfl (Nat.le_of_ble_eq_true rfl) rfl (Nat.le_refl _) (Nat.le_refl _) rfl rfl ?_
  refine x_fillI S4 51 0 (_) ((by decide)) (fa_51) ((tg_51 S4)) ((ln_51 S4)) ((by decide)) ((by decide)) (fun y5 p5 S5 => ?_)
  show Wp (d + 2) 0 0 M_X6_start 34 [some (.inr (.inr 38)), some (.inl last), none] [] y5 _
  refine p_aload 35 rfl rfl rfl ?_
  refine p_getfr (j := 10) (z := 54) 38 rfl rfl rfl (tg_38 S5) rfl (fi_38_10 S5) ?_
  refine p_const 39 rfl rfl ?_
  refine p_calls (le := [some (.inr (.inr 54)), some (.inl 0), none, none]) (as := [.inr (.inr 54), .inl 0]) (rest := []) 42 0 0 0 0 rfl rfl (Nat.le_of_ble_eq_true rfl) rfl (Nat.le_of_ble_eq_true rfl) rfl rfl (Nat.le_of_ble_eq_true rfl) rfl (Nat.le_of_ble_eq_true rfl) rfl (Nat.le_refl _) (Nat.le_refl _) rfl rfl ?_
  refine x_fillI S5 54 0 (_) ((by decide)) (fa_54) ((tg_54 S5)) ((ln_54 S5)) ((by decide)) ((by decide)) (fun y6 p6 S6 => ?_)
  show Wp (d + 2) 0 0 M_X6_start 42 [some (.inr (.inr 38)), some (.inl last), none] [] y6 _
  refine p_aload 43 rfl rfl rfl ?_
  refine p_getfr (j := 11) (z := 55) 46 rfl rfl rfl (tg_38 S6) rfl (fi_38_11 S6) ?_
  refine p_const 47 rfl rfl ?_
  refine p_calls (le := [some (.inr (.inr 55)), some (.inl (-1)), none, none]) (as := [.inr (.inr 55), .inl (-1)]) (rest := []) 50 0 0 0 0 rfl rfl (Nat.le_of_ble_eq_true rfl) rfl (Nat.le_of_ble_eq_true rfl) rfl rfl (Nat.le_of_ble_eq_true rfl) rfl (Nat.le_of_ble_eq_true rfl) rfl (Nat.le_refl _) (Nat.le_refl _) rfl rfl ?_
  refine x_fillI S6 55 (-1) (_) ((by decide)) (fa_55) ((tg_55 S6)) ((ln_55 S6)) ((by decide)) ((by decide)) (fun y7 p7 S7 => ?_)
  show Wp (d + 2) 0 0 M_X6_start 50 [some (.inr (.inr 38)), some (.inl last), none] [] y7 _
  refine p_aload 51 rfl rfl rfl ?_
  refine p_getfr (j := 12) (z := 56) 54 rfl rfl rfl (tg_38 S7) rfl (fi_38_12 S7) ?_
  refine p_const 55 rfl rfl ?_
  refine p_calls (le := [some (.inr (.inr 56)), some (.inl 0), none, none]) (as := [.inr (.inr 56), .inl 0]) (rest := []) 58 0 0 0 0 rfl rfl (Nat.le_of_ble_eq_true rfl) rfl (Nat.le_of_ble_eq_true rfl) rfl rfl (Nat.le_of_ble_eq_true rfl) rfl (Nat.le_of_ble_eq_true rfl) rfl (Nat.le_refl _) (Nat.le_refl _) rfl rfl ?_
  refine x_fillI S7 56 0 (_) ((by decide)) (fa_56) ((tg_56 S7)) ((ln_56 S7)) ((by decide)) ((by decide)) (fun y8 p8 S8 => ?_)
  show Wp (d + 2) 0 0 M_X6_start 58 [some (.inr (.inr 38)), some (.inl last), none] [] y8 _
  refine p_const 59 rfl rfl ?_
  refine p_istore (ls' := [some (.inr (.inr 38)), some (.inl last), some (.inl 0)]) 60 rfl rfl (Nat.le_of_ble_eq_true rfl) rfl ?_
  -- leaf 1: loop 60 [some (.inr (.inr 38)), some (.inl last), some (.inl 0)] st=[] h=y8 
  have w3 : ∀ {a b : Int} {g g' : PH}, Keep (fun c _ => decide (c = a)) g g' → ((24 ≤ a ∧ a ≤ 37) ∨ (40 ≤ a ∧ a ≤ 58)) → Keep lxA g g' := fun k ha => k.wide (fun b i z => decide_eq_false (fun y => of_decide_eq_false z (by omega)))
  have k12 : Keep lxA h y2 := by rw [e2, e1]; exact ((Keep.rf _ _).sv rfl _).sv rfl _
  refine L 10 0 _ (by decide) (by decide) S8 (k12.trans ((w3 (b := 0) p3.1 (by omega)).trans ((w3 (b := 0) p4.1 (by omega)).trans ((w3 (b := 0) p5.1 (by omega)).trans ((w3 (b := 0) p6.1 (by omega)).trans ((w3 (b := 0) p7.1 (by omega)).trans (w3 (b := 0) p8.1 (by omega)))))))) (fun a i z => ?_) ?_ ?_ (fun i i0 i1 => ⟨?_, ?_, ?_, ?_, ?_, ?_⟩) (fun i i0 i1 => by omega)
  · rw [p8.1.1 a i (decide_eq_false (by omega)), p7.1.1 a i (decide_eq_false (by omega)), p6.1.1 a i (decide_eq_false (by omega)), p5.1.1 a i (decide_eq_false (by omega)), p4.1.1 a i (decide_eq_false (by omega)), p3.1.1 a i (decide_eq_false (by omega)), e2, sv_ne (by omega), e1, sv_ne (by omega)]
  · rw [p8.1.1 38 3 rfl, p7.1.1 38 3 rfl, p6.1.1 38 3 rfl, p5.1.1 38 3 rfl, p4.1.1 38 3 rfl, p3.1.1 38 3 rfl, e2, sv_nf (by decide), e1, sv_eq]
  · rw [p8.1.1 38 15 rfl, p7.1.1 38 15 rfl, p6.1.1 38 15 rfl, p5.1.1 38 15 rfl, p4.1.1 38 15 rfl, p3.1.1 38 15 rfl, e2, sv_eq]
  · rw [p8.1.1 49 i rfl, p7.1.1 49 i rfl, p6.1.1 49 i rfl, p5.1.1 49 i rfl, p4.1.1 49 i rfl]; exact p3.2 i i0 i1
  · rw [p8.1.1 50 i rfl, p7.1.1 50 i rfl, p6.1.1 50 i rfl, p5.1.1 50 i rfl]; exact p4.2 i i0 i1
  · rw [p8.1.1 51 i rfl, p7.1.1 51 i rfl, p6.1.1 51 i rfl]; exact p5.2 i i0 i1
  · rw [p8.1.1 54 i rfl, p7.1.1 54 i rfl]; exact p6.2 i i0 i1
  · rw [p8.1.1 55 i rfl]; exact p7.2 i i0 i1
  · exact p8.2 i i0 i1
theorem passL_gt (h : PH) (k last s t : Int) (l : List Int) (u : LnS) : Lgt (passL h k last s t l u) = Lgt u := by
  unfold passL
  split
  · split <;> rfl
  · rfl
section PASS
variable {d : Nat} {h : PH} {q : PQ} {a k last st : Int}
theorem x_ships (R : BkR h a k) (F : FI h) (l1 : 1 ≤ last) (l9 : last ≤ 9) (t : Int) (ht : 0 ≤ t ∧ t < 1000) (t3 : t < st + 300) : ∀ (c : Nat) (s : Int) (w5 : Option PV) (u : LnS) (h1 : PH), s + c = last → 0 ≤ s → Shape h1 → Keep lxA h h1 → LX h1 last u → LI last st s t u →
    (∀ (x4 x5 : Option PV) (h' : PH), Shape h' → Keep lxA h h' → LX h' last (lshp h k last t c s u) → LI last st last t (lshp h k last t c s u) → Wp (d + 18) 0 0 M_X6_pass 82 [some (.inr (.inr 38)), some (.inr (.inr a)), some (.inl st), some (.inl t), x4, x5] [] h' q) →
    Wp (d + 18) 0 0 M_X6_pass 21 [some (.inr (.inr 38)), some (.inr (.inr a)), some (.inl st), some (.inl t), some (.inl s), w5] [] h1 q := by
  intro c
  induction c with
  | zero =>
    intro s w5 u h1 hs s0 S1 kp X L K
    have X1 := X.1
    refine p_iload 23 rfl rfl rfl ?_
    refine p_aload 24 rfl rfl rfl ?_
    refine p_getfi (j := 3) (z := last) 27 rfl rfl rfl (tg_38 S1) rfl X1 ?_
    refine p_ic_ge_t 82 rfl rfl (by omega) ?_
    -- leaf 1: loop 82 [some (.inr (.inr 38)), some (.inr (.inr a)), some (.inl st), some (.inl t), some (.inl s), w5] st=[] h=h1 
    exact K _ _ h1 S1 kp X (by rw [show last = s by omega]; rw [show last = s by omega] at L; exact L)
  | succ c ih =>
    intro s w5 u h1 hs s0 S1 kp X L K
    have X1 := X.1
    have L' := L.step R F s0 (by omega) l9
    have nxt : ∀ (x5 : Option PV) (h' : PH), Shape h' → Keep lxA h h' → LX h' last (lstp h k last s t u) → Wp (d + 18) 0 0 M_X6_pass 76 [some (.inr (.inr 38)), some (.inr (.inr a)), some (.inl st), some (.inl t), some (.inl s), x5] [] h' q := by
      intro x5 h' S' k' X'
      refine p_iinc (y := s + 1) (ls' := [some (.inr (.inr 38)), some (.inr (.inr a)), some (.inl st), some (.inl t), some (.inl (s + 1)), x5]) 79 rfl rfl rfl (w32_id ⟨(by omega), (by omega)⟩) rfl ?_
      refine p_goto 21 rfl rfl ?_
      -- leaf 1: loop 21 [some (.inr (.inr 38)), some (.inr (.inr a)), some (.inl st), some (.inl t), some (.inl (s + 1)), x5] st=[] h=h' 
      exact ih (s + 1) _ _ h' (by omega) (by omega) S' k' X' L' K
    refine p_iload 23 rfl rfl rfl ?_
    refine p_aload 24 rfl rfl rfl ?_
    refine p_getfi (j := 3) (z := last) 27 rfl rfl rfl (tg_38 S1) rfl X1 ?_
    refine p_ic_ge_f 30 rfl rfl (by omega) ?_
    refine p_iload 32 rfl rfl rfl ?_
    refine p_const 33 rfl rfl ?_
    refine p_iadd (z := s + 1) 34 rfl rfl (w32_id ⟨(by omega), (by omega)⟩) ?_
    refine p_const 36 rfl rfl ?_
    refine p_ic_ge_f 39 rfl rfl (by omega) ?_
    refine p_aload 40 rfl rfl rfl ?_
    refine p_aload 41 rfl rfl rfl ?_
    refine p_iload 43 rfl rfl rfl ?_
    refine p_iload 44 rfl rfl rfl ?_
    refine p_callv (le := [some (.inr (.inr 38)), some (.inr (.inr a)), some (.inl s), some (.inl t)]) (as := [.inr (.inr 38), .inr (.inr a), .inl s, .inl t]) (rest := []) 47 0 0 0 0 rfl rfl (Nat.le_of_ble_eq_true rfl) rfl (Nat.le_of_ble_eq_true rfl) rfl rfl (Nat.le_of_ble_eq_true rfl) rfl (Nat.le_of_ble_eq_true rfl) rfl (Nat.le_refl _) (Nat.le_refl _) rfl rfl (tg_38 S1) ?_
    refine x_fly R F S1 kp X L (by omega) l9 ht t3 (fun r1 y1 p1 S1 => ?_)
    show Wp (d + 18) 0 0 M_X6_pass 47 [some (.inr (.inr 38)), some (.inr (.inr a)), some (.inl st), some (.inl t), some (.inl s), w5] [.inl r1] y1 _
    obtain ⟨kf, dj⟩ := p1
    refine p_istore (ls' := [some (.inr (.inr 38)), some (.inr (.inr a)), some (.inl st), some (.inl t), some (.inl s), some (.inl r1)]) 49 rfl rfl (Nat.le_of_ble_eq_true rfl) rfl ?_
    refine p_iload 51 rfl rfl rfl ?_
    refine p_const 52 rfl rfl ?_
    refine p_ic_eq 55 76 rfl rfl rfl (fun c2 => ?_) (fun c2 => ?_)
    · skip
      -- leaf 1: loop 76 [some (.inr (.inr 38)), some (.inr (.inr a)), some (.inl st), some (.inl t), some (.inl s), some (.inl r1)] st=[] h=y1 
      rcases dj with ⟨_, w⟩ | ⟨l, a1, a2, o, er, Xr⟩
      · exact nxt _ _ S1 kf w
      · exfalso
        have ho : isHo (Lal u s) := by
          rcases (L.1 s s0 (by omega)).1 with ⟨w, _⟩ | w
          · exact absurd w a1
          · exact w.1
        obtain ⟨ok, _, _⟩ := SeenQ.leng ho (fun c id y => y.in R.2.1) ((o l).2 rfl)
        have := enc_in ok
        omega
    · skip
      obtain ⟨l, a1, a2, o, er, Xr⟩ : ∃ l, Lal u s ≠ 0 ∧ ¬ t < Lfr u s ∧ only (SQs h k s t (Lal u s)) l ∧ r1 = enc l ∧ LX y1 last (readL s u) := by
        rcases dj with w | w
        · exact absurd w.1 c2
        · exact w
      have ho : isHo (Lal u s) := by
        rcases (L.1 s s0 (by omega)).1 with ⟨w, _⟩ | w
        · exact absurd w a1
        · exact w.1
      obtain ⟨ok, l1', lr⟩ := SeenQ.leng ho (fun c id y => y.in R.2.1) ((o l).2 rfl)
      have l4 := ok.1
      have Lb := L.2.1 (s + 1) (by omega) (by omega)
      have g0 : 0 ≤ Lgt (readL s u) (s + 1) := Lb.1
      have g1 : Lgt (readL s u) (s + 1) + l.length ≤ 240 := by
        have y := (L'.gt240 (by omega) t3 (s + 1) (by omega) (by omega)).2
        rw [lstp_read a1 a2 o, passL_gt] at y
        have y : up (Lgt u) (s + 1) (Lgt u (s + 1) + l.length) (s + 1) ≤ 240 := y
        rw [up_eq] at y; exact y
      have g1' : Lgt u (s + 1) + l.length ≤ 240 := g1
      have tg : Ltl u (s + 1) ≤ Lgt u (s + 1) := by have y := Lb.2.1; rw [if_neg (by omega)] at y; exact y
      have hL : ((Lq (hearL last (s + 1) t l (readL s u)) (s + 1)).length : Int) ≤ Ltl (hearL last (s + 1) t l (readL s u)) (s + 1) := Lb.2.2.1
      have hT : 0 ≤ Ltl (hearL last (s + 1) t l (readL s u)) (s + 1) ∧ Ltl (hearL last (s + 1) t l (readL s u)) (s + 1) + l.length ≤ 240 := by
        have y := Lb.2.2.1
        show 0 ≤ Ltl u (s + 1) ∧ Ltl u (s + 1) + l.length ≤ 240
        omega
      refine p_aload 56 rfl rfl rfl ?_
      refine p_iload 58 rfl rfl rfl ?_
      refine p_iload 60 rfl rfl rfl ?_
      refine p_const 61 rfl rfl ?_
      refine p_iadd (z := s + 1) 62 rfl rfl (w32_id ⟨(by omega), (by omega)⟩) ?_
      refine p_iload 63 rfl rfl rfl ?_
      refine p_callv (le := [some (.inr (.inr 38)), some (.inl r1), some (.inl (s + 1)), some (.inl t), none, none]) (as := [.inr (.inr 38), .inl r1, .inl (s + 1), .inl t]) (rest := []) 66 0 0 0 0 rfl rfl (Nat.le_of_ble_eq_true rfl) rfl (Nat.le_of_ble_eq_true rfl) rfl rfl (Nat.le_of_ble_eq_true rfl) rfl (Nat.le_of_ble_eq_true rfl) rfl (Nat.le_refl _) (Nat.le_refl _) rfl rfl (tg_38 S1) ?_
      refine x_hear r1 er S1 kf Xr ok (by omega) l9 g0 g1 L.2.2.2 (fun y3 p3 S3 => ?_)
      show Wp (d + 18) 0 0 M_X6_pass 66 [some (.inr (.inr 38)), some (.inr (.inr a)), some (.inl st), some (.inl t), some (.inl s), some (.inl r1)] [] y3 _
      refine p_aload 67 rfl rfl rfl ?_
      refine p_aload 68 rfl rfl rfl ?_
      refine p_iload 70 rfl rfl rfl ?_
      refine p_const 71 rfl rfl ?_
      refine p_iadd (z := s + 1) 72 rfl rfl (w32_id ⟨(by omega), (by omega)⟩) ?_
      refine p_iload 73 rfl rfl rfl ?_
      refine p_callv (le := [some (.inr (.inr 38)), some (.inr (.inr a)), some (.inl (s + 1)), some (.inl t)]) (as := [.inr (.inr 38), .inr (.inr a), .inl (s + 1), .inl t]) (rest := []) 76 0 0 0 0 rfl rfl (Nat.le_of_ble_eq_true rfl) rfl (Nat.le_of_ble_eq_true rfl) rfl rfl (Nat.le_of_ble_eq_true rfl) rfl (Nat.le_of_ble_eq_true rfl) rfl (Nat.le_refl _) (Nat.le_refl _) rfl rfl (tg_38 S3) ?_
      refine x_relayOn R F S3 p3.1 p3.2.1 (by omega) l9 ht l1' l4 p3.2.2.1 p3.2.2.2 hT hL (fun y4 p4 S4 => ?_)
      show Wp (d + 18) 0 0 M_X6_pass 76 [some (.inr (.inr 38)), some (.inr (.inr a)), some (.inl st), some (.inl t), some (.inl s), some (.inl r1)] [] y4 _
      -- leaf 2: loop 76 [some (.inr (.inr 38)), some (.inr (.inr a)), some (.inl st), some (.inl t), some (.inl s), some (.inl r1)] st=[] h=y4 
      exact nxt _ _ S4 p4.1 (by rw [lstp_read a1 a2 o]; exact p4.2)
theorem x_pass (R : BkR h a k) (F : FI h) (l1 : 1 ≤ last) (l9 : last ≤ 9) (hst : 0 ≤ st ∧ st ≤ 700) : ∀ (c : Nat) (t : Int) (w4 w5 : Option PV) (u : LnS) (h1 : PH), t + c = st + 300 → st ≤ t → Shape h1 → Keep lxA h h1 → LX h1 last u → LI last st 0 t u →
    (∀ (t' : Int) (h' : PH), (Keep lxA h h' ∧ LX h' last (lrun h k last c t u) ∧ LI last st 0 t' (lrun h k last c t u) ∧ t' ≤ st + 300) → Shape h' → q none h') →
    Wp (d + 18) 0 0 M_X6_pass 2 [some (.inr (.inr 38)), some (.inr (.inr a)), some (.inl st), some (.inl t), w4, w5] [] h1 q := by
  intro c
  induction c with
  | zero =>
    intro t w4 w5 u h1 hs s0 S1 kp X L K
    refine p_iload 3 rfl rfl rfl ?_
    refine p_iload 4 rfl rfl rfl ?_
    refine p_const 7 rfl rfl ?_
    refine p_iadd (z := st + 300) 8 rfl rfl (w32_id ⟨(by omega), (by omega)⟩) ?_
    refine p_ic_ge_t 88 rfl rfl (by omega) ?_
    refine p_ret rfl rfl ?_
    -- leaf 1: answer [] h=h1 
    exact K t h1 ⟨kp, X, L, by omega⟩ S1
  | succ c ih =>
    intro t w4 w5 u h1 hs s0 S1 kp X L K
    have J82 : ∀ (x4 x5 : Option PV) (v : LnS) (h' : PH), Shape h' → Keep lxA h h' → LX h' last v → LI last st 0 (t + 1) v → lrun h k last (c + 1) t u = lrun h k last c (t + 1) v → Wp (d + 18) 0 0 M_X6_pass 82 [some (.inr (.inr 38)), some (.inr (.inr a)), some (.inl st), some (.inl t), x4, x5] [] h' q := by
      intro x4 x5 v h' S' k' X' L' e
      rw [e] at K
      refine p_iinc (y := t + 1) (ls' := [some (.inr (.inr 38)), some (.inr (.inr a)), some (.inl st), some (.inl (t + 1)), x4, x5]) 85 rfl rfl rfl (w32_id ⟨(by omega), (by omega)⟩) rfl ?_
      refine p_goto 2 rfl rfl ?_
      -- leaf 1: loop 2 [some (.inr (.inr 38)), some (.inr (.inr a)), some (.inl st), some (.inl (t + 1)), x4, x5] st=[] h=h' 
      exact ih (t + 1) _ _ v h' (by omega) (by omega) S' k' X' L' K
    refine p_iload 3 rfl rfl rfl ?_
    refine p_iload 4 rfl rfl rfl ?_
    refine p_const 7 rfl rfl ?_
    refine p_iadd (z := st + 300) 8 rfl rfl (w32_id ⟨(by omega), (by omega)⟩) ?_
    refine p_ic_ge_f 11 rfl rfl (by omega) ?_
    refine p_aload 12 rfl rfl rfl ?_
    refine p_callv (le := [some (.inr (.inr 38)), none]) (as := [.inr (.inr 38)]) (rest := []) 15 0 0 0 0 rfl rfl (Nat.le_of_ble_eq_true rfl) rfl (Nat.le_of_ble_eq_true rfl) rfl rfl (Nat.le_of_ble_eq_true rfl) rfl (Nat.le_of_ble_eq_true rfl) rfl (Nat.le_refl _) (Nat.le_refl _) rfl rfl (tg_38 S1) ?_
    refine x_isBusy S1 X (by omega) l9 (fun c1 => ?_) (fun c1 => ?_)
    · show Wp (d + 18) 0 0 M_X6_pass 15 [some (.inr (.inr 38)), some (.inr (.inr a)), some (.inl st), some (.inl t), w4, w5] [.inl 1] h1 _
      refine p_if_eq_f 18 rfl rfl (by decide) ?_
      refine p_const 19 rfl rfl ?_
      refine p_istore (ls' := [some (.inr (.inr 38)), some (.inr (.inr a)), some (.inl st), some (.inl t), some (.inl 0), w5]) 21 rfl rfl (Nat.le_of_ble_eq_true rfl) rfl ?_
      -- leaf 1: loop 21 [some (.inr (.inr 38)), some (.inr (.inr a)), some (.inl st), some (.inl t), some (.inl 0), w5] st=[] h=h1 
      exact x_ships R F l1 l9 t ⟨by omega, by omega⟩ (by omega) last.toNat 0 _ u h1 (by omega) (by omega) S1 kp X L (fun x4 x5 h' S' k' X' L' => J82 x4 x5 _ h' S' k' X' L'.next (if_pos c1))
    · show Wp (d + 18) 0 0 M_X6_pass 15 [some (.inr (.inr 38)), some (.inr (.inr a)), some (.inl st), some (.inl t), w4, w5] [.inl 0] h1 _
      refine p_if_eq_t 88 rfl rfl (by decide) ?_
      refine p_ret rfl rfl ?_
      -- leaf 2: answer [] h=h1 
      have e : lrun h k last (c + 1) t u = u := if_neg c1
      rw [e] at K
      exact K t h1 ⟨kp, X, L, by omega⟩ S1
theorem x_pass0 (R : BkR h a k) (F : FI h) (l1 : 1 ≤ last) (l9 : last ≤ 9) (hst : 0 ≤ st ∧ st ≤ 700) (u : LnS) (h1 : PH) (S1 : Shape h1) (kp : Keep lxA h h1) (X : LX h1 last u) (L : LI last st 0 st u)
    (K : ∀ (h' : PH), (Keep lxA h h' ∧ LX h' last (lrun h k last 300 st u) ∧ ∃ t', LI last st 0 t' (lrun h k last 300 st u) ∧ t' ≤ st + 300) → Shape h' → q none h') :
    Wp (d + 18) 0 0 M_X6_pass 0 [some (.inr (.inr 38)), some (.inr (.inr a)), some (.inl st), none, none, none] [] h1 q := by
  refine p_iload 1 rfl rfl rfl ?_
  refine p_istore (ls' := [some (.inr (.inr 38)), some (.inr (.inr a)), some (.inl st), some (.inl st), none, none]) 2 rfl rfl (Nat.le_of_ble_eq_true rfl) rfl ?_
  -- leaf 1: loop 2 [some (.inr (.inr 38)), some (.inr (.inr a)), some (.inl st), some (.inl st), none, none] st=[] h=h1 
  exact x_pass R F l1 l9 hst 300 st _ _ u h1 (by omega) (by omega) S1 kp X L (fun t' h' p S' => K h' ⟨p.1, p.2.1, t', p.2.2⟩ S')
end PASS
def lOk (h : PH) (last t : Int) : Prop := (1 ≤ last ∧ last ≤ 9) ∧ (0 ≤ t ∧ t ≤ 700) ∧ sOk h 0 t
noncomputable def lFin (h : PH) (last t : Int) : LnS := lrun h (kb h) last 300 t (l0 (sH h 0 t))
def LineX (h : PH) (last t r : Int) (h' : PH) : Prop := (¬ lOk h last t ∧ r = -1 ∧ ∀ b i, 38 ≤ b → b ≤ 58 → gv h' b i = gv h b i) ∨ (lOk h last t ∧ LX h' last (lFin h last t) ∧ (∃ t', LI last t 0 t' (lFin h last t) ∧ t' ≤ t + 300) ∧ r = Lgt (lFin h last t) last)
theorem x_line {d : Nat} {h : PH} {q : PQ} (S : Shape h) (A : AI h) (F : FI h) (M : MI h) (last t : Int) (K : ∀ r h', (Keep lxA h h' ∧ LineX h last t r h') → Shape h' → q (some (.inl r)) h') :
    Wp (d + 19) 0 0 M_X11_line 0 [some (.inr (.inr 2)), some (.inl last), some (.inl t), none] [] h q := by
  have A0 := A
  have kb0 := A.kb
  obtain ⟨⟨M0, M1⟩, _, _⟩ := id M
  have no : ∀ h', ¬ lOk h last t → Keep lxA h h' → (∀ b i, 38 ≤ b → b ≤ 58 → gv h' b i = gv h b i) → Keep lxA h h' ∧ LineX h last t (-1) h' := fun h' n k e => ⟨k, Or.inl ⟨n, rfl, e⟩⟩
  refine p_aload 1 rfl rfl rfl ?_
  refine p_callv (le := [some (.inr (.inr 2))]) (as := [.inr (.inr 2)]) (rest := []) 4 0 0 0 0 rfl rfl (Nat.le_of_ble_eq_true rfl) rfl (Nat.le_of_ble_eq_true rfl) rfl rfl (Nat.le_of_ble_eq_true rfl) rfl (Nat.le_of_ble_eq_true rfl) rfl (Nat.le_refl _) (Nat.le_refl _) rfl rfl (tg_2 S) ?_
  refine x_knownBook S  (A0) ?_
  show Wp (d + 19) 0 0 M_X11_line 4 [some (.inr (.inr 2)), some (.inl last), some (.inl t), none] [.inr (.inr (xb h))] h _
  refine p_astore (ls' := [some (.inr (.inr 2)), some (.inl last), some (.inl t), some (.inr (.inr (xb h)))]) 5 rfl rfl (Nat.le_of_ble_eq_true rfl) rfl ?_
  refine p_aload 6 rfl rfl rfl ?_
  refine p_ifnull 9 39 rfl rfl rfl (fun c2 => ?_) (fun c2 => ?_)
  · skip
    refine p_const 40 rfl rfl ?_
    refine p_iret rfl rfl ?_
    -- leaf 1: answer [.inl (-1)] h=h 
    refine K _ _ (no _ (fun y => ?_) (Keep.rf _ _) (fun _ _ _ _ => rfl)) S
    have y1 := y.2.2.1.1
    rcases kb0 with w | w <;> omega
  · skip
    refine p_iload 10 rfl rfl rfl ?_
    refine p_const 11 rfl rfl ?_
    refine p_ic_lt 14 39 rfl rfl rfl (fun c3 => ?_) (fun c3 => ?_)
    · skip
      refine p_const 40 rfl rfl ?_
      refine p_iret rfl rfl ?_
      -- leaf 2: answer [.inl (-1)] h=h 
      exact K _ _ (no _ (fun y => by have := y.1; omega) (Keep.rf _ _) (fun _ _ _ _ => rfl)) S
    · skip
      refine p_iload 15 rfl rfl rfl ?_
      refine p_const 17 rfl rfl ?_
      refine p_ic_ge 20 39 rfl rfl rfl (fun c4 => ?_) (fun c4 => ?_)
      · skip
        refine p_const 40 rfl rfl ?_
        refine p_iret rfl rfl ?_
        -- leaf 3: answer [.inl (-1)] h=h 
        exact K _ _ (no _ (fun y => by have := y.1; omega) (Keep.rf _ _) (fun _ _ _ _ => rfl)) S
      · skip
        refine p_iload 21 rfl rfl rfl ?_
        refine p_if_lt 24 39 rfl rfl rfl (fun c5 => ?_) (fun c5 => ?_)
        · skip
          refine p_const 40 rfl rfl ?_
          refine p_iret rfl rfl ?_
          -- leaf 4: answer [.inl (-1)] h=h 
          exact K _ _ (no _ (fun y => by have := y.2.1; omega) (Keep.rf _ _) (fun _ _ _ _ => rfl)) S
        · skip
          refine p_iload 25 rfl rfl rfl ?_
          refine p_const 28 rfl rfl ?_
          refine p_ic_gt 31 39 rfl rfl rfl (fun c6 => ?_) (fun c6 => ?_)
          · skip
            refine p_const 40 rfl rfl ?_
            refine p_iret rfl rfl ?_
            -- leaf 5: answer [.inl (-1)] h=h 
            exact K _ _ (no _ (fun y => by have := y.2.1; omega) (Keep.rf _ _) (fun _ _ _ _ => rfl)) S
          · skip
            have R : BkR h (xb h) (kb h) := by rcases kb0 with w | w; exact absurd w.2 c2; exact w.2.2.2
            have kb1 : kb h ≠ 0 := by rcases kb0 with w | w; exact absurd w.2 c2; omega
            have ht : 0 ≤ t ∧ t < 1000 := by omega
            refine p_aload 32 rfl rfl rfl ?_
            refine p_aload 33 rfl rfl rfl ?_
            refine p_callv (le := [some (.inr (.inr 2)), some (.inr (.inr (xb h))), none, none]) (as := [.inr (.inr 2), .inr (.inr (xb h))]) (rest := []) 36 0 0 0 0 rfl rfl (Nat.le_of_ble_eq_true rfl) rfl (Nat.le_of_ble_eq_true rfl) rfl rfl (Nat.le_of_ble_eq_true rfl) rfl (Nat.le_of_ble_eq_true rfl) rfl (Nat.le_refl _) (Nat.le_refl _) rfl rfl (tg_2 S) ?_
            refine x_address S (xb h) R M (fun r7 y7 p7 S7 => ?_)
            have kp7 : Keep lxA h y7 := (p7.1.wide amA_lxA)
            show Wp (d + 19) 0 0 M_X11_line 36 [some (.inr (.inr 2)), some (.inl last), some (.inl t), some (.inr (.inr (xb h)))] [.inl r7] y7 _
            refine p_if_ne 39 41 rfl rfl rfl (fun c8 => ?_) (fun c8 => ?_)
            · skip
              have kB := kp7.wide lxA_bkB
              have q5 : adOk h (kb h) ∧ gv y7 32 3 = gv h 2 10 ∧ ∀ i, 0 ≤ i → i < gv h 2 10 → gv y7 33 i = ids h (kb h) i := by rcases p7.2 with w | w; exact w.2; exact absurd w.1 c8
              obtain ⟨hok, hn, hids⟩ := q5
              have hn1 := hok.1
              refine p_aload 42 rfl rfl rfl ?_
              refine p_getfr (j := 5) (z := 32) 45 rfl rfl rfl (tg_2 S7) rfl (fi_2_5 S7) ?_
              refine p_aload 46 rfl rfl rfl ?_
              refine p_const 47 rfl rfl ?_
              refine p_iload 48 rfl rfl rfl ?_
              refine p_callv (le := [some (.inr (.inr 32)), some (.inr (.inr (xb h))), some (.inl 0), some (.inl t), none]) (as := [.inr (.inr 32), .inr (.inr (xb h)), .inl 0, .inl t]) (rest := []) 51 0 0 0 0 rfl rfl (Nat.le_of_ble_eq_true rfl) rfl (Nat.le_of_ble_eq_true rfl) rfl rfl (Nat.le_of_ble_eq_true rfl) rfl (Nat.le_of_ble_eq_true rfl) rfl (Nat.le_refl _) (Nat.le_refl _) rfl rfl (tg_32 S7) ?_
              refine x_plan S7 (xb h) 0 t (R.kp kB) (F.kp kB) (by decide) ht hn (by omega) (by omega) (fun r9 y9 p9 S9 => ?_)
              have kp9 : Keep lxA h y9 := kp7.trans (p9.1.wide plA_lxA)
              show Wp (d + 19) 0 0 M_X11_line 51 [some (.inr (.inr 2)), some (.inl last), some (.inl t), some (.inr (.inr (xb h)))] [.inl r9] y9 _
              have EB : bstF y7 (kb h) 0 t (zh y7 t) (fun i => gv y7 33 i) (gv h 2 10) (gv h 2 10).toNat = sB h 0 t := by
                rw [zh_congr kB, bstF_congr kB]; exact bstF_ids hids _ (by omega)
              obtain ⟨k9, ce, er⟩ := p9
              rw [EB] at ce er
              have ok : ∀ i, 0 ≤ i → i ≤ gv h 2 10 → bOk (hstF h 0) (plnF h (kb h) 0 t (zh h t)) (gv h 2 10) (sB h 0 t) i := fun i i0 i1 => R.bok (gv h 2 10).toNat i (by omega) i1
              refine p_const 52 rfl rfl ?_
              refine p_ic_ne 55 57 rfl rfl rfl (fun c10 => ?_) (fun c10 => ?_)
              · skip
                have hn2 : gv y9 32 3 = gv h 2 10 := (k9.1 32 3 rfl).trans hn
                have b0 : (sB h 0 t 0).1 < 1000 := by by_cases w : (sB h 0 t 0).1 < 1000; exact w; rw [if_neg w] at er; exact absurd er c10
                have b12 : (sB h 0 t 0).1 ≤ 12 := by rcases ok 0 (Int.le_refl 0) (by omega) with w | ⟨w, _⟩ <;> omega
                have R3 : gv h 87 0 ≤ 3 := by have := F.rp 0 (by decide) (by decide); omega
                have ho : ∀ w ∈ sH h 0 t, isHo w := pth_ho R3 ok (gv h 2 10).toNat 0 (Int.le_refl 0) (by omega) b0
                have h12 : (sH h 0 t).length ≤ 12 := by
                  have y : ((sH h 0 t).length : Int) = (sB h 0 t 0).1 := pth_len ok (gv h 2 10).toNat 0 (by omega) (Int.le_refl 0) (by omega) b0
                  omega
                refine p_aload 58 rfl rfl rfl ?_
                refine p_getfr (j := 6) (z := 38) 61 rfl rfl rfl (tg_2 S9) rfl (fi_2_6 S9) ?_
                refine p_iload 62 rfl rfl rfl ?_
                refine p_callv (le := [some (.inr (.inr 38)), some (.inl last), none]) (as := [.inr (.inr 38), .inl last]) (rest := []) 65 0 0 0 0 rfl rfl (Nat.le_of_ble_eq_true rfl) rfl (Nat.le_of_ble_eq_true rfl) rfl rfl (Nat.le_of_ble_eq_true rfl) rfl (Nat.le_of_ble_eq_true rfl) rfl (Nat.le_refl _) (Nat.le_refl _) rfl rfl (tg_38 S9) ?_
                refine x_start S9 last (by omega) (by omega) ok hn2 (by omega) (by omega) ce b0 (fun y11 p11 S11 => ?_)
                have kp11 : Keep lxA h y11 := kp9.trans p11.1
                show Wp (d + 19) 0 0 M_X11_line 65 [some (.inr (.inr 2)), some (.inl last), some (.inl t), some (.inr (.inr (xb h)))] [] y11 _
                refine p_aload 66 rfl rfl rfl ?_
                refine p_getfr (j := 6) (z := 38) 69 rfl rfl rfl (tg_2 S11) rfl (fi_2_6 S11) ?_
                refine p_aload 70 rfl rfl rfl ?_
                refine p_iload 71 rfl rfl rfl ?_
                refine p_callv (le := [some (.inr (.inr 38)), some (.inr (.inr (xb h))), some (.inl t), none, none, none]) (as := [.inr (.inr 38), .inr (.inr (xb h)), .inl t]) (rest := []) 74 0 0 0 0 rfl rfl (Nat.le_of_ble_eq_true rfl) rfl (Nat.le_of_ble_eq_true rfl) rfl rfl (Nat.le_of_ble_eq_true rfl) rfl (Nat.le_of_ble_eq_true rfl) rfl (Nat.le_refl _) (Nat.le_refl _) rfl rfl (tg_38 S11) ?_
                refine x_pass0 R F (by omega) (by omega) (by omega) _ _ S11 kp11 p11.2 (l0_LI ho h12) (fun y12 p12 S12 => ?_)
                have kp12 : Keep lxA h y12 := p12.1
                show Wp (d + 19) 0 0 M_X11_line 74 [some (.inr (.inr 2)), some (.inl last), some (.inl t), some (.inr (.inr (xb h)))] [] y12 _
                refine p_aload 75 rfl rfl rfl ?_
                refine p_getfr (j := 6) (z := 38) 78 rfl rfl rfl (tg_2 S12) rfl (fi_2_6 S12) ?_
                refine p_getfr (j := 10) (z := 54) 81 rfl rfl rfl (tg_38 S12) rfl (fi_38_10 S12) ?_
                refine p_iload 82 rfl rfl rfl ?_
                refine p_iald (w := 10) (z := gv y12 54 last) 83 rfl rfl (tg_54 S12) (ln_54 S12) (by omega) (by omega) rfl ?_
                refine p_iret rfl rfl ?_
                -- leaf 6: answer [.inl (gv y12 54 last)] h=y12  kp12
                exact K _ _ ⟨kp12, Or.inr ⟨⟨⟨by omega, by omega⟩, ⟨by omega, by omega⟩, ⟨kb1, ⟨by decide, by decide⟩, ht, hok⟩, b0⟩, p12.2.1, p12.2.2, (p12.2.1.2.2.1 last (by omega) (by omega)).2.2.2.1⟩⟩ S12
              · skip
                refine p_const 56 rfl rfl ?_
                refine p_iret rfl rfl ?_
                -- leaf 7: answer [.inl (-1)] h=y9  kp9
                refine K _ _ (no _ (fun y => ?_) kp9 (fun b i b0 b1 => ?_)) S9
                · rw [if_pos y.2.2.2] at er
                  have y3 := y.2.2.2
                  rcases ok 0 (Int.le_refl 0) (by omega) with w | ⟨w, _⟩ <;> omega
                · rw [k9.1 b i (decide_eq_false (by omega)), p7.1.1 b i (decide_eq_false (by omega))]
            · skip
              refine p_const 40 rfl rfl ?_
              refine p_iret rfl rfl ?_
              -- leaf 8: answer [.inl (-1)] h=y7  kp7
              refine K _ _ (no _ (fun y => ?_) kp7 (fun b i b0 b1 => p7.1.1 b i (decide_eq_false (by omega)))) S7
              rcases p7.2 with w | w
              · omega
              · exact w.2 y.2.2.1.2.2.2

