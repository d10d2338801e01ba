/-! CUT: the tokens of the whole text -/
def wq (T : Int → Int) (s e : Int) : Int := if e - s ≤ 6 then wv T s (e - s).toNat else 0
theorem wq_in {T : Int → Int} {s e : Int} (h : ends isLet T s e) : 0 ≤ wq T s e ∧ wq T s e < 1073741824 := by
  unfold wq
  by_cases z : e - s ≤ 6
  · rw [if_pos z]
    have w := wv_in (T := T) (p := s) (k := (e - s).toNat) (fun i i0 i1 => h.2.1 i i0 (by have := h.1; omega))
    have h1 : (32 : Nat) ^ (e - s).toNat ≤ 32 ^ 6 := Nat.pow_le_pow_right (by decide) (by omega)
    have e1 : ((32 ^ (e - s).toNat : Nat) : Int) = 32 ^ (e - s).toNat := Int.natCast_pow 32 _
    have e2 : (32 : Nat) ^ 6 = 1073741824 := by decide
    omega
  · rw [if_neg z]; decide
/-- the token that begins at s, but for what stands right before it -/
def TokC (T : Int → Int) (s k e v : Int) : Prop := (isLet (T s) ∧ ends isLet T s e ∧ k = 1 ∧ v = wq T s e) ∨ (isDig (T s) ∧ ends isDig T s e ∧ k = 2 ∧ v = nv T s (if e - s ≤ 4 then e - s else 4).toNat) ∨ (T s = 46 ∧ ends isLet T (s + 1) e ∧ k = 3 ∧ v = wq T (s + 1) e) ∨ (¬ isLet (T s) ∧ ¬ isDig (T s) ∧ T s ≠ 46 ∧ e = s + 1 ∧ k = 4 ∧ v = T s)
def TokR (T : Int → Int) (n kb pb : Int) (t : Tok) : Prop := nxt T pb t.2.1 ∧ (0 ≤ t.2.1 ∧ t.2.1 < n) ∧ (t.2.1 < t.2.2.1 ∧ t.2.2.1 ≤ n) ∧ ∃ k, TokC T t.2.1 k t.2.2.1 t.2.2.2 ∧ t.1 = knd kb pb t.2.1 k
def prv (L : List Tok) : Nat → Int × Int
  | 0 => (0, 0)
  | j + 1 => ((L.getD j (0, 0, 0, 0)).1, (L.getD j (0, 0, 0, 0)).2.2.1)
theorem prv_snoc (D : List Tok) (t : Tok) : ∀ {j : Nat}, j ≤ D.length → prv (D ++ [t]) j = prv D j
  | 0, _ => rfl
  | j + 1, h => by
    show (((D ++ [t]).getD j (0, 0, 0, 0)).1, ((D ++ [t]).getD j (0, 0, 0, 0)).2.2.1) = ((D.getD j (0, 0, 0, 0)).1, (D.getD j (0, 0, 0, 0)).2.2.1)
    rw [List.getD_eq_getElem?_getD, List.getD_eq_getElem?_getD, List.getElem?_append_left (by omega)]
theorem prv_last (D : List Tok) (t : Tok) : prv (D ++ [t]) (D.length + 1) = (t.1, t.2.2.1) := by
  show (((D ++ [t]).getD D.length (0, 0, 0, 0)).1, ((D ++ [t]).getD D.length (0, 0, 0, 0)).2.2.1) = (t.1, t.2.2.1)
  rw [List.getD_eq_getElem?_getD, List.getElem?_append_right (Nat.le_refl _), Nat.sub_self]; rfl
def LexP (T : Int → Int) (n : Int) (L : List Tok) : Prop := ∀ (j : Nat) t, L[j]? = some t → TokR T n (prv L j).1 (prv L j).2 t
theorem LexP.snoc {T : Int → Int} {n : Int} {D : List Tok} {t : Tok} (X : LexP T n D) (h : TokR T n (prv D D.length).1 (prv D D.length).2 t) : LexP T n (D ++ [t]) := fun j u hu => by
  rcases snoc_getT hu with ⟨j1, j2⟩ | ⟨j1, j2⟩
  · rw [prv_snoc D t (by omega)]; exact X j u j2
  · rw [j2, j1, prv_snoc D t (Nat.le_refl _)]; exact h
def ctT (a i : Int) : Bool := decide ((a = 16 ∧ (i = 2 ∨ i = 3 ∨ i = 4)) ∨ a = 17)
theorem x_cutOne {d : Nat} {h : PH} {q : PQ} (S : Shape h) (s : Int) {T : Int → Int} {n : Int} {D : List Tok} (O : TxO T n) (Y : TxX h T n) (X : TkH h D) (l7 : D.length ≤ 700) (P : LexP T n D) (g3 : gv h 16 3 = (prv D D.length).1) (g4 : gv h 16 4 = (prv D D.length).2) (nx : nxt T (prv D D.length).2 s) (s0 : 0 ≤ s) (sn : s < n)
    (K : ∀ h', (Keep adT h h' ∧ ∃ t : Tok, s < t.2.2.1 ∧ t.2.2.1 ≤ n ∧ TkH h' (D ++ [t]) ∧ LexP T n (D ++ [t]) ∧ gv h' 16 3 = t.1 ∧ gv h' 16 4 = t.2.2.1) → Shape h' → q none h') :
    Wp (d + 4) 0 0 M_X10_cutOne 0 [some (.inr (.inr 16)), some (.inl s), none, none, none] [] h q := by
  have n7 := O.1
  have fin : ∀ (h' : PH) (k e v : Int), TokC T s k e v → s < e → e ≤ n → Keep adT h h' → TkH h' (D ++ [(knd (gv h 16 3) (gv h 16 4) s k, s, e, v)]) → gv h' 16 3 = knd (gv h 16 3) (gv h 16 4) s k → gv h' 16 4 = e → Shape h' → q none h' := fun h' k e v c se en kp tk h3 h4 S' => by
    rw [g3, g4] at tk h3
    refine K h' ⟨kp, (knd (prv D D.length).1 (prv D D.length).2 s k, s, e, v), se, en, tk, P.snoc ⟨nx, ⟨s0, sn⟩, ⟨se, en⟩, k, c, rfl⟩, h3, h4⟩ S'
  refine p_aload 1 rfl rfl rfl ?_
  refine p_getfr (j := 0) (z := 3) 4 rfl rfl rfl (tg_16 S) rfl (fi_16_0 S) ?_
  refine p_iload 5 rfl rfl rfl ?_
  refine p_callv (le := [some (.inr (.inr 3)), some (.inl s), none, none]) (as := [.inr (.inr 3), .inl s]) (rest := []) 8 0 0 0 0 rfl rfl (Nat.le_of_ble_eq_true rfl) rfl (Nat.le_of_ble_eq_true rfl) rfl rfl (Nat.le_of_ble_eq_true rfl) rfl (Nat.le_of_ble_eq_true rfl) rfl (Nat.le_refl _) (Nat.le_refl _) rfl rfl (tg_3 S) ?_
  refine x_wordEnd S s O Y (by omega) (by omega) (fun r1 p1 => ?_)
  show Wp (d + 4) 0 0 M_X10_cutOne 8 [some (.inr (.inr 16)), some (.inl s), none, none, none] [.inl r1] h _
  refine p_istore (ls' := [some (.inr (.inr 16)), some (.inl s), some (.inl r1), none, none]) 9 rfl rfl (Nat.le_of_ble_eq_true rfl) rfl ?_
  refine p_aload 10 rfl rfl rfl ?_
  refine p_getfr (j := 0) (z := 3) 13 rfl rfl rfl (tg_16 S) rfl (fi_16_0 S) ?_
  refine p_iload 14 rfl rfl rfl ?_
  refine p_callv (le := [some (.inr (.inr 3)), some (.inl s), none, none]) (as := [.inr (.inr 3), .inl s]) (rest := []) 17 0 0 0 0 rfl rfl (Nat.le_of_ble_eq_true rfl) rfl (Nat.le_of_ble_eq_true rfl) rfl rfl (Nat.le_of_ble_eq_true rfl) rfl (Nat.le_of_ble_eq_true rfl) rfl (Nat.le_refl _) (Nat.le_refl _) rfl rfl (tg_3 S) ?_
  refine x_numberEnd S s O Y (by omega) (by omega) (fun r2 p2 => ?_)
  show Wp (d + 4) 0 0 M_X10_cutOne 17 [some (.inr (.inr 16)), some (.inl s), some (.inl r1), none, none] [.inl r2] h _
  refine p_istore (ls' := [some (.inr (.inr 16)), some (.inl s), some (.inl r1), some (.inl r2), none]) 18 rfl rfl (Nat.le_of_ble_eq_true rfl) rfl ?_
  refine p_iload 19 rfl rfl rfl ?_
  have p1' := p1
  refine p_iload 20 rfl rfl rfl ?_
  refine p_ic_le 23 42 rfl rfl rfl (fun c3 => ?_) (fun c3 => ?_)
  · skip
    refine p_iload 43 rfl rfl rfl ?_
    refine p_iload 44 rfl rfl rfl ?_
    refine p_ic_le 47 72 rfl rfl rfl (fun c4 => ?_) (fun c4 => ?_)
    · skip
      have hd : ¬ isDig (T s) ∨ isDig (T s) := by omega
      refine p_aload 73 rfl rfl rfl ?_
      refine p_getfr (j := 0) (z := 3) 76 rfl rfl rfl (tg_16 S) rfl (fi_16_0 S) ?_
      refine p_iload 77 rfl rfl rfl ?_
      refine p_callv (le := [some (.inr (.inr 3)), some (.inl s)]) (as := [.inr (.inr 3), .inl s]) (rest := []) 80 0 0 0 0 rfl rfl (Nat.le_of_ble_eq_true rfl) rfl (Nat.le_of_ble_eq_true rfl) rfl rfl (Nat.le_of_ble_eq_true rfl) rfl (Nat.le_of_ble_eq_true rfl) rfl (Nat.le_refl _) (Nat.le_refl _) rfl rfl (tg_3 S) ?_
      refine x_at S s O Y ?_
      show Wp (d + 4) 0 0 M_X10_cutOne 80 [some (.inr (.inr 16)), some (.inl s), some (.inl r1), some (.inl r2), none] [.inl (T s)] h _
      refine p_const 82 rfl rfl ?_
      have nl : ¬ isLet (T s) := fun z => by
        have h3 := p1.1.2.2
        have h1 := p1.1.1
        have : r1 = s := by omega
        rw [this] at h3; exact h3 z
      have nd : ¬ isDig (T s) := fun z => by
        have h3 := p2.1.2.2
        have h1 := p2.1.1
        have : r2 = s := by omega
        rw [this] at h3; exact h3 z
      refine p_ic_ne 85 120 rfl rfl rfl (fun c6 => ?_) (fun c6 => ?_)
      · skip
        refine p_aload 121 rfl rfl rfl ?_
        refine p_const 122 rfl rfl ?_
        refine p_iload 123 rfl rfl rfl ?_
        refine p_iload 124 rfl rfl rfl ?_
        refine p_const 125 rfl rfl ?_
        refine p_iadd (z := s + 1) 126 rfl rfl (w32_id ⟨(by omega), (by omega)⟩) ?_
        refine p_aload 127 rfl rfl rfl ?_
        refine p_getfr (j := 0) (z := 3) 130 rfl rfl rfl (tg_16 S) rfl (fi_16_0 S) ?_
        refine p_iload 131 rfl rfl rfl ?_
        refine p_callv (le := [some (.inr (.inr 3)), some (.inl s)]) (as := [.inr (.inr 3), .inl s]) (rest := [.inl (s + 1), .inl s, .inl 4, .inr (.inr 16)]) 134 0 0 0 0 rfl rfl (Nat.le_of_ble_eq_true rfl) rfl (Nat.le_of_ble_eq_true rfl) rfl rfl (Nat.le_of_ble_eq_true rfl) rfl (Nat.le_of_ble_eq_true rfl) rfl (Nat.le_refl _) (Nat.le_refl _) rfl rfl (tg_3 S) ?_
        refine x_at S s O Y ?_
        show Wp (d + 4) 0 0 M_X10_cutOne 134 [some (.inr (.inr 16)), some (.inl s), some (.inl r1), some (.inl r2), none] [.inl (T s), .inl (s + 1), .inl s, .inl 4, .inr (.inr 16)] h _
        have Ts := O.2.1 s s0 sn
        have vb : 0 ≤ T s ∧ T s < 1073741824 := by omega
        refine p_callv (le := [some (.inr (.inr 16)), some (.inl 4), some (.inl s), some (.inl (s + 1)), some (.inl (T s)), none]) (as := [.inr (.inr 16), .inl 4, .inl s, .inl (s + 1), .inl (T s)]) (rest := []) 137 0 0 0 0 rfl rfl (Nat.le_of_ble_eq_true rfl) rfl (Nat.le_of_ble_eq_true rfl) rfl rfl (Nat.le_of_ble_eq_true rfl) rfl (Nat.le_of_ble_eq_true rfl) rfl (Nat.le_refl _) (Nat.le_refl _) rfl rfl (tg_16 S) ?_
        refine x_add S 4 s (s + 1) (T s) X l7 (by omega) (by omega) (by omega) vb (fun y8 p8 S8 => ?_)
        show Wp (d + 4) 0 0 M_X10_cutOne 137 [some (.inr (.inr 16)), some (.inl s), some (.inl r1), some (.inl r2), none] [] y8 _
        refine p_ret rfl rfl ?_
        -- leaf 1: answer [] h=y8 
        exact fin _ 4 (s + 1) (T s) (Or.inr (Or.inr (Or.inr ⟨nl, nd, c6, rfl, rfl, rfl⟩))) (by omega) (by omega) p8.1 p8.2.1 p8.2.2.1 p8.2.2.2 S8
      · skip
        refine p_aload 86 rfl rfl rfl ?_
        refine p_getfr (j := 0) (z := 3) 89 rfl rfl rfl (tg_16 S) rfl (fi_16_0 S) ?_
        refine p_iload 90 rfl rfl rfl ?_
        refine p_const 91 rfl rfl ?_
        refine p_iadd (z := s + 1) 92 rfl rfl (w32_id ⟨(by omega), (by omega)⟩) ?_
        refine p_callv (le := [some (.inr (.inr 3)), some (.inl (s + 1)), none, none]) (as := [.inr (.inr 3), .inl (s + 1)]) (rest := []) 95 0 0 0 0 rfl rfl (Nat.le_of_ble_eq_true rfl) rfl (Nat.le_of_ble_eq_true rfl) rfl rfl (Nat.le_of_ble_eq_true rfl) rfl (Nat.le_of_ble_eq_true rfl) rfl (Nat.le_refl _) (Nat.le_refl _) rfl rfl (tg_3 S) ?_
        refine x_wordEnd S (s + 1) O Y (by omega) (by omega) (fun r9 p9 => ?_)
        show Wp (d + 4) 0 0 M_X10_cutOne 95 [some (.inr (.inr 16)), some (.inl s), some (.inl r1), some (.inl r2), none] [.inl r9] h _
        have pw := p9
        refine p_istore (ls' := [some (.inr (.inr 16)), some (.inl s), some (.inl r1), some (.inl r2), some (.inl r9)]) 97 rfl rfl (Nat.le_of_ble_eq_true rfl) rfl ?_
        refine p_aload 98 rfl rfl rfl ?_
        refine p_const 99 rfl rfl ?_
        refine p_iload 100 rfl rfl rfl ?_
        refine p_iload 102 rfl rfl rfl ?_
        refine p_aload 103 rfl rfl rfl ?_
        refine p_getfr (j := 0) (z := 3) 106 rfl rfl rfl (tg_16 S) rfl (fi_16_0 S) ?_
        refine p_iload 107 rfl rfl rfl ?_
        refine p_const 108 rfl rfl ?_
        refine p_iadd (z := s + 1) 109 rfl rfl (w32_id ⟨(by omega), (by omega)⟩) ?_
        refine p_iload 111 rfl rfl rfl ?_
        refine p_callv (le := [some (.inr (.inr 3)), some (.inl (s + 1)), some (.inl r9), none, none]) (as := [.inr (.inr 3), .inl (s + 1), .inl r9]) (rest := [.inl r9, .inl s, .inl 3, .inr (.inr 16)]) 114 0 0 0 0 rfl rfl (Nat.le_of_ble_eq_true rfl) rfl (Nat.le_of_ble_eq_true rfl) rfl rfl (Nat.le_of_ble_eq_true rfl) rfl (Nat.le_of_ble_eq_true rfl) rfl (Nat.le_refl _) (Nat.le_refl _) rfl rfl (tg_3 S) ?_
        refine x_word S (s + 1) r9 O Y (by omega) pw.1.1 pw.2 pw.1.2.1 ?_
        show Wp (d + 4) 0 0 M_X10_cutOne 114 [some (.inr (.inr 16)), some (.inl s), some (.inl r1), some (.inl r2), some (.inl r9)] [.inl (wq T (s + 1) r9), .inl r9, .inl s, .inl 3, .inr (.inr 16)] h _
        have vb := wq_in pw.1
        have pw1 := pw.1.1
        refine p_callv (le := [some (.inr (.inr 16)), some (.inl 3), some (.inl s), some (.inl r9), some (.inl (wq T (s + 1) r9)), none]) (as := [.inr (.inr 16), .inl 3, .inl s, .inl r9, .inl (wq T (s + 1) r9)]) (rest := []) 117 0 0 0 0 rfl rfl (Nat.le_of_ble_eq_true rfl) rfl (Nat.le_of_ble_eq_true rfl) rfl rfl (Nat.le_of_ble_eq_true rfl) rfl (Nat.le_of_ble_eq_true rfl) rfl (Nat.le_refl _) (Nat.le_refl _) rfl rfl (tg_16 S) ?_
        refine x_add S 3 s r9 (wq T (s + 1) r9) X l7 (by omega) (by omega) (by omega) vb (fun y11 p11 S11 => ?_)
        show Wp (d + 4) 0 0 M_X10_cutOne 117 [some (.inr (.inr 16)), some (.inl s), some (.inl r1), some (.inl r2), some (.inl r9)] [] y11 _
        refine p_goto 137 rfl rfl ?_
        refine p_ret rfl rfl ?_
        -- leaf 2: answer [] h=y11 
        exact fin _ 3 r9 _ (Or.inr (Or.inr (Or.inl ⟨by omega, p9.1, rfl, rfl⟩))) (by have := p9.1.1; omega) p9.2 p11.1 p11.2.1 p11.2.2.1 p11.2.2.2 S11
    · skip
      refine p_aload 48 rfl rfl rfl ?_
      refine p_const 49 rfl rfl ?_
      refine p_iload 50 rfl rfl rfl ?_
      refine p_iload 51 rfl rfl rfl ?_
      refine p_aload 52 rfl rfl rfl ?_
      refine p_getfr (j := 0) (z := 3) 55 rfl rfl rfl (tg_16 S) rfl (fi_16_0 S) ?_
      refine p_iload 56 rfl rfl rfl ?_
      refine p_iload 57 rfl rfl rfl ?_
      refine p_iload 58 rfl rfl rfl ?_
      refine p_const 59 rfl rfl ?_
      refine p_iadd (z := s + 4) 60 rfl rfl (w32_id ⟨(by omega), (by omega)⟩) ?_
      refine p_mini (z := min r2 (s + 4)) 63 rfl rfl (Nat.succ_pos _) (Nat.le_of_ble_eq_true rfl) rfl ?_
      refine p_callv (le := [some (.inr (.inr 3)), some (.inl s), some (.inl (min r2 (s + 4))), none, none]) (as := [.inr (.inr 3), .inl s, .inl (min r2 (s + 4))]) (rest := [.inl r2, .inl s, .inl 2, .inr (.inr 16)]) 66 0 0 0 0 rfl rfl (Nat.le_of_ble_eq_true rfl) rfl (Nat.le_of_ble_eq_true rfl) rfl rfl (Nat.le_of_ble_eq_true rfl) rfl (Nat.le_of_ble_eq_true rfl) rfl (Nat.le_refl _) (Nat.le_refl _) rfl rfl (tg_3 S) ?_
      refine x_number S s (min r2 (s + 4)) O Y (by omega) (by omega) (by omega) (by omega) (fun i i0 i1 => p2.1.2.1 i i0 (by omega)) ?_
      show Wp (d + 4) 0 0 M_X10_cutOne 66 [some (.inr (.inr 16)), some (.inl s), some (.inl r1), some (.inl r2), none] [.inl (nv T s ((min r2 (s + 4)) - s).toNat), .inl r2, .inl s, .inl 2, .inr (.inr 16)] h _
      have vb : 0 ≤ nv T s ((min r2 (s + 4)) - s).toNat ∧ nv T s ((min r2 (s + 4)) - s).toNat < 1073741824 := by
        have w := nv_in (T := T) (p := s) (k := ((min r2 (s + 4)) - s).toNat) (fun i i0 i1 => p2.1.2.1 i i0 (by omega))
        have h1 : (10 : Nat) ^ ((min r2 (s + 4)) - s).toNat ≤ 10 ^ 4 := Nat.pow_le_pow_right (by decide) (by omega)
        have e1 : ((10 ^ ((min r2 (s + 4)) - s).toNat : Nat) : Int) = 10 ^ ((min r2 (s + 4)) - s).toNat := Int.natCast_pow 10 _
        have e2 : (10 : Nat) ^ 4 = 10000 := by decide
        omega
      refine p_callv (le := [some (.inr (.inr 16)), some (.inl 2), some (.inl s), some (.inl r2), some (.inl (nv T s ((min r2 (s + 4)) - s).toNat)), none]) (as := [.inr (.inr 16), .inl 2, .inl s, .inl r2, .inl (nv T s ((min r2 (s + 4)) - s).toNat)]) (rest := []) 69 0 0 0 0 rfl rfl (Nat.le_of_ble_eq_true rfl) rfl (Nat.le_of_ble_eq_true rfl) rfl rfl (Nat.le_of_ble_eq_true rfl) rfl (Nat.le_of_ble_eq_true rfl) rfl (Nat.le_refl _) (Nat.le_refl _) rfl rfl (tg_16 S) ?_
      refine x_add S 2 s r2 (nv T s ((min r2 (s + 4)) - s).toNat) X l7 (by omega) (by omega) (by omega) vb (fun y13 p13 S13 => ?_)
      show Wp (d + 4) 0 0 M_X10_cutOne 69 [some (.inr (.inr 16)), some (.inl s), some (.inl r1), some (.inl r2), none] [] y13 _
      refine p_goto 137 rfl rfl ?_
      refine p_ret rfl rfl ?_
      -- leaf 3: answer [] h=y13 
      have al : isDig (T s) := p2.1.2.1 s (Int.le_refl s) (by omega)
      exact fin _ 2 r2 _ (Or.inr (Or.inl ⟨al, p2.1, rfl, by rw [show (min r2 (s + 4) - s).toNat = (if r2 - s ≤ 4 then r2 - s else 4).toNat by split <;> omega]⟩)) (by omega) p2.2 p13.1 p13.2.1 p13.2.2.1 p13.2.2.2 S13
  · skip
    have pw := p1
    refine p_aload 24 rfl rfl rfl ?_
    refine p_const 25 rfl rfl ?_
    refine p_iload 26 rfl rfl rfl ?_
    refine p_iload 27 rfl rfl rfl ?_
    refine p_aload 28 rfl rfl rfl ?_
    refine p_getfr (j := 0) (z := 3) 31 rfl rfl rfl (tg_16 S) rfl (fi_16_0 S) ?_
    refine p_iload 32 rfl rfl rfl ?_
    refine p_iload 33 rfl rfl rfl ?_
    refine p_callv (le := [some (.inr (.inr 3)), some (.inl s), some (.inl r1), none, none]) (as := [.inr (.inr 3), .inl s, .inl r1]) (rest := [.inl r1, .inl s, .inl 1, .inr (.inr 16)]) 36 0 0 0 0 rfl rfl (Nat.le_of_ble_eq_true rfl) rfl (Nat.le_of_ble_eq_true rfl) rfl rfl (Nat.le_of_ble_eq_true rfl) rfl (Nat.le_of_ble_eq_true rfl) rfl (Nat.le_refl _) (Nat.le_refl _) rfl rfl (tg_3 S) ?_
    refine x_word S s r1 O Y (by omega) pw.1.1 pw.2 pw.1.2.1 ?_
    show Wp (d + 4) 0 0 M_X10_cutOne 36 [some (.inr (.inr 16)), some (.inl s), some (.inl r1), some (.inl r2), none] [.inl (wq T s r1), .inl r1, .inl s, .inl 1, .inr (.inr 16)] h _
    have vb := wq_in pw.1
    refine p_callv (le := [some (.inr (.inr 16)), some (.inl 1), some (.inl s), some (.inl r1), some (.inl (wq T s r1)), none]) (as := [.inr (.inr 16), .inl 1, .inl s, .inl r1, .inl (wq T s r1)]) (rest := []) 39 0 0 0 0 rfl rfl (Nat.le_of_ble_eq_true rfl) rfl (Nat.le_of_ble_eq_true rfl) rfl rfl (Nat.le_of_ble_eq_true rfl) rfl (Nat.le_of_ble_eq_true rfl) rfl (Nat.le_refl _) (Nat.le_refl _) rfl rfl (tg_16 S) ?_
    refine x_add S 1 s r1 (wq T s r1) X l7 (by omega) (by omega) (by omega) vb (fun y15 p15 S15 => ?_)
    show Wp (d + 4) 0 0 M_X10_cutOne 39 [some (.inr (.inr 16)), some (.inl s), some (.inl r1), some (.inl r2), none] [] y15 _
    refine p_goto 137 rfl rfl ?_
    refine p_ret rfl rfl ?_
    -- leaf 4: answer [] h=y15 
    have al : isLet (T s) := p1.1.2.1 s (Int.le_refl s) (by omega)
    exact fin _ 1 r1 _ (Or.inl ⟨al, p1.1, rfl, rfl⟩) (by omega) p1.2 p15.1 p15.2.1 p15.2.2.1 p15.2.2.2 S15
/-- all tokens of a text -/
def LexA (T : Int → Int) (n : Int) (L : List Tok) : Prop := ∃ D, L = D ++ [(0, n, n, 0)] ∧ LexP T n D ∧ D.length ≤ 700 ∧ ((prv D D.length).2 ≤ n ∧ ∀ i, (prv D D.length).2 ≤ i → i < n → isBl (T i))
theorem x_cut {d : Nat} {h : PH} {q : PQ} (S : Shape h) {T : Int → Int} {n : Int} (O : TxO T n) (Y : TxX h T n)
    (K : ∀ h', (Keep adT h h' ∧ ∃ L, LexA T n L ∧ TkH h' L) → Shape h' → q none h') :
    Wp (d + 5) 0 0 M_X10_cut 0 [some (.inr (.inr 16)), none] [] h q := by
  have n7 := O.1
  have J : ∀ (c : Nat) (i : Int) (D : List Tok) (h1 : PH), i + c = n → 0 ≤ i → Shape h1 → Keep adT h h1 → TkH h1 D → LexP T n D → (D.length : Int) ≤ i → gv h1 16 3 = (prv D D.length).1 → gv h1 16 4 = (prv D D.length).2 → 0 ≤ (prv D D.length).2 → (prv D D.length).2 ≤ n → (∀ j, (prv D D.length).2 ≤ j → j < i → isBl (T j)) →
      Wp (d + 5) 0 0 M_X10_cut 17 [some (.inr (.inr 16)), some (.inl i)] [] h1 q := by
    intro c
    induction c with
    | zero =>
      intro i D h1 hi i0 S1 k1 X P dl g3 g4 p0 pn bl
      have hn : gv h1 3 1 = n := (k1.1 3 1 rfl).trans Y.1
      refine p_iload 18 rfl rfl rfl ?_
      refine p_aload 19 rfl rfl rfl ?_
      refine p_getfr (j := 0) (z := 3) 22 rfl rfl rfl (tg_16 S1) rfl (fi_16_0 S1) ?_
      refine p_getfi (j := 1) (z := n) 25 rfl rfl rfl (tg_3 S1) rfl hn ?_
      refine p_ic_ge_t 61 rfl rfl (by omega) ?_
      refine p_aload 62 rfl rfl rfl ?_
      refine p_const 63 rfl rfl ?_
      refine p_aload 64 rfl rfl rfl ?_
      refine p_getfr (j := 0) (z := 3) 67 rfl rfl rfl (tg_16 S1) rfl (fi_16_0 S1) ?_
      refine p_getfi (j := 1) (z := n) 70 rfl rfl rfl (tg_3 S1) rfl hn ?_
      refine p_aload 71 rfl rfl rfl ?_
      refine p_getfr (j := 0) (z := 3) 74 rfl rfl rfl (tg_16 S1) rfl (fi_16_0 S1) ?_
      refine p_getfi (j := 1) (z := n) 77 rfl rfl rfl (tg_3 S1) rfl hn ?_
      refine p_const 78 rfl rfl ?_
      refine p_callv (le := [some (.inr (.inr 16)), some (.inl 0), some (.inl n), some (.inl n), some (.inl 0), none]) (as := [.inr (.inr 16), .inl 0, .inl n, .inl n, .inl 0]) (rest := []) 81 0 0 0 0 rfl rfl (Nat.le_of_ble_eq_true rfl) rfl (Nat.le_of_ble_eq_true rfl) rfl rfl (Nat.le_of_ble_eq_true rfl) rfl (Nat.le_of_ble_eq_true rfl) rfl (Nat.le_refl _) (Nat.le_refl _) rfl rfl (tg_16 S1) ?_
      refine x_add S1 0 n n 0 X (by omega) (by omega) (by omega) (by omega) (by omega) (fun y1 p1 S1 => ?_)
      show Wp (d + 5) 0 0 M_X10_cut 81 [some (.inr (.inr 16)), some (.inl i)] [] y1 _
      refine p_ret rfl rfl ?_
      -- leaf 1: answer [] h=y1 
      obtain ⟨k2, X2, _⟩ := p1
      have kz : knd (gv h1 16 3) (gv h1 16 4) n 0 = 0 := by
        unfold knd wdy
        rw [if_neg (by omega)]
      rw [kz] at X2
      exact K _ ⟨k1.trans k2, _, ⟨D, rfl, P, by omega, pn, fun j j0 j1 => bl j j0 (by omega)⟩, X2⟩ S1
    | succ c ih =>
      intro i D h1 hi i0 S1 k1 X P dl g3 g4 p0 pn bl
      have Y1 : TxX h1 T n := Y.kp (k1.1 3 1 rfl) (fun i => k1.1 4 i rfl)
      have hn : gv h1 3 1 = n := Y1.1
      refine p_iload 18 rfl rfl rfl ?_
      refine p_aload 19 rfl rfl rfl ?_
      refine p_getfr (j := 0) (z := 3) 22 rfl rfl rfl (tg_16 S1) rfl (fi_16_0 S1) ?_
      refine p_getfi (j := 1) (z := n) 25 rfl rfl rfl (tg_3 S1) rfl hn ?_
      refine p_ic_ge_f 28 rfl rfl (by omega) ?_
      refine p_iload 29 rfl rfl rfl ?_
      refine p_aload 30 rfl rfl rfl ?_
      refine p_getfi (j := 4) (z := gv h1 16 4) 33 rfl rfl rfl (tg_16 S1) rfl rfl ?_
      refine p_ic_lt 36 55 rfl rfl rfl (fun c1 => ?_) (fun c1 => ?_)
      · skip
        refine p_iinc (y := i + 1) (ls' := [some (.inr (.inr 16)), some (.inl (i + 1))]) 58 rfl rfl rfl (w32_id ⟨(by omega), (by omega)⟩) rfl ?_
        refine p_goto 17 rfl rfl ?_
        -- leaf 1: loop 17 [some (.inr (.inr 16)), some (.inl (i + 1))] st=[] h=h1 
        exact ih (i + 1) D h1 (by omega) (by omega) S1 k1 X P (by omega) g3 g4 p0 pn (fun j j0 j1 => by omega)
      · skip
        have pi : (prv D D.length).2 ≤ i := by omega
        refine p_aload 37 rfl rfl rfl ?_
        refine p_getfr (j := 0) (z := 3) 40 rfl rfl rfl (tg_16 S1) rfl (fi_16_0 S1) ?_
        refine p_iload 41 rfl rfl rfl ?_
        refine p_callv (le := [some (.inr (.inr 3)), some (.inl i)]) (as := [.inr (.inr 3), .inl i]) (rest := []) 44 0 0 0 0 rfl rfl (Nat.le_of_ble_eq_true rfl) rfl (Nat.le_of_ble_eq_true rfl) rfl rfl (Nat.le_of_ble_eq_true rfl) rfl (Nat.le_of_ble_eq_true rfl) rfl (Nat.le_refl _) (Nat.le_refl _) rfl rfl (tg_3 S1) ?_
        refine x_at S1 i O Y1 ?_
        show Wp (d + 5) 0 0 M_X10_cut 44 [some (.inr (.inr 16)), some (.inl i)] [.inl (T i)] h1 _
        refine p_calls (le := [some (.inl (T i))]) (as := [.inl (T i)]) (rest := []) 47 0 0 0 0 rfl rfl (Nat.le_of_ble_eq_true rfl) rfl (Nat.le_of_ble_eq_true rfl) rfl rfl (Nat.le_of_ble_eq_true rfl) rfl (Nat.le_of_ble_eq_true rfl) rfl (Nat.le_refl _) (Nat.le_refl _) rfl rfl ?_
        refine p_iload 1 rfl rfl rfl ?_
        refine p_const 3 rfl rfl ?_
        refine p_ic_eq 6 12 rfl rfl rfl (fun c3 => ?_) (fun c3 => ?_)
        · skip
          refine p_const 13 rfl rfl ?_
          refine p_goto 17 rfl rfl ?_
          refine p_zret rfl rfl (by decide) ?_
          show Wp (d + 5) 0 0 M_X10_cut 47 [some (.inr (.inr 16)), some (.inl i)] [.inl 1] h1 _
          refine p_if_ne_t 55 rfl rfl (by decide) ?_
          refine p_iinc (y := i + 1) (ls' := [some (.inr (.inr 16)), some (.inl (i + 1))]) 58 rfl rfl rfl (w32_id ⟨(by omega), (by omega)⟩) rfl ?_
          refine p_goto 17 rfl rfl ?_
          -- leaf 2: loop 17 [some (.inr (.inr 16)), some (.inl (i + 1))] st=[] h=h1 
          refine ih (i + 1) D h1 (by omega) (by omega) S1 k1 X P (by omega) g3 g4 p0 pn (fun j j0 j1 => ?_)
          by_cases z : j = i
          · rw [z]; exact Or.inl c3
          · exact bl j j0 (by omega)
        · skip
          refine p_iload 7 rfl rfl rfl ?_
          refine p_const 9 rfl rfl ?_
          refine p_ic_ne 12 16 rfl rfl rfl (fun c4 => ?_) (fun c4 => ?_)
          · skip
            refine p_const 17 rfl rfl ?_
            refine p_zret rfl rfl (by decide) ?_
            show Wp (d + 5) 0 0 M_X10_cut 47 [some (.inr (.inr 16)), some (.inl i)] [.inl 0] h1 _
            refine p_if_ne_f 50 rfl rfl (by decide) ?_
            refine p_aload 51 rfl rfl rfl ?_
            refine p_iload 52 rfl rfl rfl ?_
            have nxi : nxt T (prv D D.length).2 i := ⟨pi, bl, by omega⟩
            refine p_callv (le := [some (.inr (.inr 16)), some (.inl i), none, none, none]) (as := [.inr (.inr 16), .inl i]) (rest := []) 55 0 0 0 0 rfl rfl (Nat.le_of_ble_eq_true rfl) rfl (Nat.le_of_ble_eq_true rfl) rfl rfl (Nat.le_of_ble_eq_true rfl) rfl (Nat.le_of_ble_eq_true rfl) rfl (Nat.le_refl _) (Nat.le_refl _) rfl rfl (tg_16 S1) ?_
            refine x_cutOne S1 i O Y1 X (by omega) P g3 g4 nxi i0 (by omega) (fun y5 p5 S5 => ?_)
            show Wp (d + 5) 0 0 M_X10_cut 55 [some (.inr (.inr 16)), some (.inl i)] [] y5 _
            refine p_iinc (y := i + 1) (ls' := [some (.inr (.inr 16)), some (.inl (i + 1))]) 58 rfl rfl rfl (w32_id ⟨(by omega), (by omega)⟩) rfl ?_
            refine p_goto 17 rfl rfl ?_
            -- leaf 3: loop 17 [some (.inr (.inr 16)), some (.inl (i + 1))] st=[] h=y5 
            obtain ⟨k2, t, t1, t2, X2, P2, h3, h4⟩ := p5
            have el : (D ++ [t]).length = D.length + 1 := by rw [List.length_append]; rfl
            have pl : prv (D ++ [t]) (D ++ [t]).length = (t.1, t.2.2.1) := by rw [el]; exact prv_last D t
            refine ih (i + 1) (D ++ [t]) _ (by omega) (by omega) S5 (k1.trans k2) X2 P2 (by rw [el]; omega) (by rw [pl]; exact h3) (by rw [pl]; exact h4) (by rw [pl]; show 0 ≤ t.2.2.1; omega) (by rw [pl]; exact t2) (fun j j0 j1 => ?_)
            rw [pl] at j0
            have j0 : t.2.2.1 ≤ j := j0
            omega
          · skip
            refine p_const 13 rfl rfl ?_
            refine p_goto 17 rfl rfl ?_
            refine p_zret rfl rfl (by decide) ?_
            show Wp (d + 5) 0 0 M_X10_cut 47 [some (.inr (.inr 16)), some (.inl i)] [.inl 1] h1 _
            refine p_if_ne_t 55 rfl rfl (by decide) ?_
            refine p_iinc (y := i + 1) (ls' := [some (.inr (.inr 16)), some (.inl (i + 1))]) 58 rfl rfl rfl (w32_id ⟨(by omega), (by omega)⟩) rfl ?_
            refine p_goto 17 rfl rfl ?_
            -- leaf 4: loop 17 [some (.inr (.inr 16)), some (.inl (i + 1))] st=[] h=h1 
            refine ih (i + 1) D h1 (by omega) (by omega) S1 k1 X P (by omega) g3 g4 p0 pn (fun j j0 j1 => ?_)
            by_cases z : j = i
            · rw [z]; exact Or.inr (by omega)
            · exact bl j j0 (by omega)
  refine p_aload 1 rfl rfl rfl ?_
  refine p_const 2 rfl rfl ?_
  refine p_putfi (j := 2) 5 rfl rfl rfl (fun z => absurd z (by decide)) (tg_16 S) rfl ?_
  refine p_nmh (fun y1 e1 => ?_)
  have S1 : Shape y1 := by rw [e1]; exact S.svF ff_16_2 _
  refine p_aload 6 rfl rfl rfl ?_
  refine p_const 7 rfl rfl ?_
  refine p_putfi (j := 3) 10 rfl rfl rfl (fun z => absurd z (by decide)) (tg_16 S1) rfl ?_
  refine p_nmh (fun y2 e2 => ?_)
  have S2 : Shape y2 := by rw [e2]; exact S1.svF ff_16_3 _
  refine p_aload 11 rfl rfl rfl ?_
  refine p_const 12 rfl rfl ?_
  refine p_putfi (j := 4) 15 rfl rfl rfl (fun z => absurd z (by decide)) (tg_16 S2) rfl ?_
  refine p_nmh (fun y3 e3 => ?_)
  have S3 : Shape y3 := by rw [e3]; exact S2.svF ff_16_4 _
  refine p_const 16 rfl rfl ?_
  refine p_istore (ls' := [some (.inr (.inr 16)), some (.inl 0)]) 17 rfl rfl (Nat.le_of_ble_eq_true rfl) rfl ?_
  -- leaf 1: loop 17 [some (.inr (.inr 16)), some (.inl 0)] st=[] h=y3 e3,e2,e1
  refine J n.toNat 0 [] _ (by omega) (Int.le_refl 0) S3 ?_ ⟨?_, fun j t hj => by cases hj⟩ (fun j t hj => by cases hj) (by decide) ?_ ?_ (by decide) (by show (0 : Int) ≤ n; omega) (fun j j0 j1 => ?_)
  · rw [e3, e2, e1]; exact (((Keep.rf _ _).sv rfl _).sv rfl _).sv rfl _
  · rw [e3, sv_nf (by decide), e2, sv_nf (by decide), e1, sv_eq]; rfl
  · rw [e3, sv_nf (by decide), e2, sv_eq]; rfl
  · rw [e3, sv_eq]; rfl
  · have j0 : 0 ≤ j := j0
    omega

