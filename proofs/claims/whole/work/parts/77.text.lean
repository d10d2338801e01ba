/-! THE TAPE AS TEXT: T i is byte i, -1 outside -/
abbrev isLet (c : Int) : Prop := 97 ≤ c ∧ c ≤ 122
abbrev isDig (c : Int) : Prop := 48 ≤ c ∧ c ≤ 57
abbrev isBl (c : Int) : Prop := c = 10 ∨ c = 32
def TxO (T : Int → Int) (n : Int) : Prop := (0 ≤ n ∧ n ≤ 700) ∧ (∀ i, 0 ≤ i → i < n → 0 ≤ T i ∧ T i ≤ 255) ∧ ∀ i, ¬ (0 ≤ i ∧ i < n) → T i = -1
def TxX (h : PH) (T : Int → Int) (n : Int) : Prop := gv h 3 1 = n ∧ ∀ i, 0 ≤ i → i < n → gv h 4 i % 256 = T i
def TxM (h : PH) (T : Int → Int) (n : Int) : Prop := gv h 66 3 = n ∧ ∀ i, 0 ≤ i → i < n → gv h 67 i = T i
theorem TxX.kp {h h' : PH} {T : Int → Int} {n : Int} (X : TxX h T n) (e1 : gv h' 3 1 = gv h 3 1) (e2 : ∀ i, gv h' 4 i = gv h 4 i) : TxX h' T n := ⟨e1.trans X.1, fun i i0 i1 => by rw [e2]; exact X.2 i i0 i1⟩
theorem TxM.kp {h h' : PH} {T : Int → Int} {n : Int} (X : TxM h T n) (e1 : gv h' 66 3 = gv h 66 3) (e2 : ∀ i, gv h' 67 i = gv h 67 i) : TxM h' T n := ⟨e1.trans X.1, fun i i0 i1 => by rw [e2]; exact X.2 i i0 i1⟩
theorem TxO.in_ {T : Int → Int} {n : Int} (O : TxO T n) (i : Int) : -1 ≤ T i ∧ T i ≤ 255 := by
  by_cases z : 0 ≤ i ∧ i < n
  · have := O.2.1 i z.1 z.2; omega
  · have := O.2.2 i z; omega
theorem TxO.lt {T : Int → Int} {n : Int} (O : TxO T n) {i : Int} (z : T i ≠ -1) : 0 ≤ i ∧ i < n := by
  apply Decidable.byContradiction
  intro y; exact z (O.2.2 i y)
theorem x_at {d : Nat} {h : PH} {q : PQ} (S : Shape h) (p : Int) {T : Int → Int} {n : Int} (O : TxO T n) (X : TxX h T n) (K : q (some (.inl (T p))) h) : Wp (d + 1) 0 0 M_X9_at 0 [some (.inr (.inr 3)), some (.inl p)] [] h q := by
  obtain ⟨o1, o2, o3⟩ := O
  obtain ⟨x1, x2⟩ := X
  refine ok_X9_at S p (fun a b c => ?_) (fun a => ?_)
  · rw [x2 p a (by omega)]; exact K
  · rw [o3 p (by omega)] at K; exact K
/-- the run of places where P holds, from p on, ends at e -/
def ends (P : Int → Prop) (T : Int → Int) (p e : Int) : Prop := p ≤ e ∧ (∀ i, p ≤ i → i < e → P (T i)) ∧ ¬ P (T e)
theorem ends.same {P : Int → Prop} {T : Int → Int} {p e e' : Int} (a : ends P T p e) (b : ends P T p e') : e = e' := by
  obtain ⟨a1, a2, a3⟩ := a
  obtain ⟨b1, b2, b3⟩ := b
  rcases Int.lt_trichotomy e e' with z | z | z
  · exact absurd (b2 e a1 z) a3
  · exact z
  · exact absurd (a2 e' b1 z) b3
theorem ends_ex {P : Int → Prop} {T : Int → Int} {n : Int} (O : TxO T n) : ∀ {c : Nat} {p : Int}, p ≤ n → ¬ P (-1) → (n - p).toNat = c → ∃ e, ends P T p e ∧ e ≤ n := by
  intro c
  induction c with
  | zero =>
    intro p p1 np hc
    exact ⟨p, ⟨Int.le_refl p, fun i i0 i1 => by omega, by rw [O.2.2 p (by omega)]; exact np⟩, p1⟩
  | succ c ih =>
    intro p p1 np hc
    by_cases z : P (T p)
    · obtain ⟨e, ⟨a1, a2, a3⟩, en⟩ := ih (p := p + 1) (by omega) np (by omega)
      exact ⟨e, ⟨by omega, fun i i0 i1 => by by_cases y : i = p; rw [y]; exact z; exact a2 i (by omega) i1, a3⟩, en⟩
    · exact ⟨p, ⟨Int.le_refl p, fun i i0 i1 => by omega, z⟩, p1⟩
theorem x_wordEnd {d : Nat} {h : PH} {q : PQ} (S : Shape h) (p : Int) {T : Int → Int} {n : Int} (O : TxO T n) (X : TxX h T n) (p0 : 0 ≤ p) (p1 : p ≤ n) (K : ∀ e, (ends isLet T p e ∧ e ≤ n) → q (some (.inl e)) h) : Wp (d + 3) 0 0 M_X9_wordEnd 0 [some (.inr (.inr 3)), some (.inl p), none, none] [] h q := by
  have hn := X.1
  have n7 := O.1
  have J : ∀ (c : Nat) (e : Int), e + c = n → p ≤ e → (∀ i, p ≤ i → i < e → isLet (T i)) → Wp (d + 3) 0 0 M_X9_wordEnd 4 [some (.inr (.inr 3)), some (.inl p), some (.inl e), some (.inl e)] [] h q := by
    intro c
    induction c with
    | zero =>
      intro e he pe al
      refine p_iload 5 rfl rfl rfl ?_
      refine p_aload 6 rfl rfl rfl ?_
      refine p_getfi (j := 1) (z := n) 9 rfl rfl rfl (tg_3 S) rfl hn ?_
      refine p_ic_ge_t 30 rfl rfl (by omega) ?_
      refine p_iload 31 rfl rfl rfl ?_
      refine p_iret rfl rfl ?_
      -- leaf 1: answer [.inl e] h=h 
      exact K e ⟨⟨pe, al, fun z => by have := O.2.2 e (by omega); omega⟩, by omega⟩
    | succ c ih =>
      intro e he pe al
      refine p_iload 5 rfl rfl rfl ?_
      refine p_aload 6 rfl rfl rfl ?_
      refine p_getfi (j := 1) (z := n) 9 rfl rfl rfl (tg_3 S) rfl hn ?_
      refine p_ic_ge_f 12 rfl rfl (by omega) ?_
      refine p_aload 13 rfl rfl rfl ?_
      refine p_iload 14 rfl rfl rfl ?_
      refine p_callv (le := [some (.inr (.inr 3)), some (.inl e), none]) (as := [.inr (.inr 3), .inl e]) (rest := []) 17 0 0 0 0 rfl rfl (Nat.le_of_ble_eq_true rfl) rfl (Nat.le_of_ble_eq_true rfl) rfl rfl (Nat.le_of_ble_eq_true rfl) rfl (Nat.le_of_ble_eq_true rfl) rfl (Nat.le_refl _) (Nat.le_refl _) rfl rfl (tg_3 S) ?_
      refine p_aload 1 rfl rfl rfl ?_
      refine p_iload 2 rfl rfl rfl ?_
      refine p_callv (le := [some (.inr (.inr 3)), some (.inl e)]) (as := [.inr (.inr 3), .inl e]) (rest := []) 5 0 0 0 0 rfl rfl (Nat.le_of_ble_eq_true rfl) rfl (Nat.le_of_ble_eq_true rfl) rfl rfl (Nat.le_of_ble_eq_true rfl) rfl (Nat.le_of_ble_eq_true rfl) rfl (Nat.le_refl _) (Nat.le_refl _) rfl rfl (tg_3 S) ?_
      refine x_at S e O X ?_
      show Wp (d + 2) 0 0 M_X9_letterAt 5 [some (.inr (.inr 3)), some (.inl e), none] [.inl (T e)] h _
      refine p_istore (ls' := [some (.inr (.inr 3)), some (.inl e), some (.inl (T e))]) 6 rfl rfl (Nat.le_of_ble_eq_true rfl) rfl ?_
      refine p_iload 7 rfl rfl rfl ?_
      refine p_const 9 rfl rfl ?_
      refine p_ic_lt 12 22 rfl rfl rfl (fun c2 => ?_) (fun c2 => ?_)
      · skip
        refine p_const 23 rfl rfl ?_
        refine p_zret rfl rfl (by decide) ?_
        show Wp (d + 3) 0 0 M_X9_wordEnd 17 [some (.inr (.inr 3)), some (.inl p), some (.inl e), some (.inl e)] [.inl 0] h _
        refine p_if_eq_t 30 rfl rfl (by decide) ?_
        refine p_iload 31 rfl rfl rfl ?_
        refine p_iret rfl rfl ?_
        -- leaf 1: answer [.inl e] h=h 
        exact K e ⟨⟨pe, al, fun z => by omega⟩, by omega⟩
      · skip
        refine p_iload 13 rfl rfl rfl ?_
        refine p_const 15 rfl rfl ?_
        refine p_ic_gt 18 22 rfl rfl rfl (fun c3 => ?_) (fun c3 => ?_)
        · skip
          refine p_const 23 rfl rfl ?_
          refine p_zret rfl rfl (by decide) ?_
          show Wp (d + 3) 0 0 M_X9_wordEnd 17 [some (.inr (.inr 3)), some (.inl p), some (.inl e), some (.inl e)] [.inl 0] h _
          refine p_if_eq_t 30 rfl rfl (by decide) ?_
          refine p_iload 31 rfl rfl rfl ?_
          refine p_iret rfl rfl ?_
          -- leaf 2: answer [.inl e] h=h 
          exact K e ⟨⟨pe, al, fun z => by omega⟩, by omega⟩
        · skip
          refine p_const 19 rfl rfl ?_
          refine p_goto 23 rfl rfl ?_
          refine p_zret rfl rfl (by decide) ?_
          show Wp (d + 3) 0 0 M_X9_wordEnd 17 [some (.inr (.inr 3)), some (.inl p), some (.inl e), some (.inl e)] [.inl 1] h _
          refine p_if_eq_f 20 rfl rfl (by decide) ?_
          refine p_iload 21 rfl rfl rfl ?_
          refine p_const 22 rfl rfl ?_
          refine p_iadd (z := e + 1) 23 rfl rfl (w32_id ⟨(by omega), (by omega)⟩) ?_
          refine p_istore (ls' := [some (.inr (.inr 3)), some (.inl p), some (.inl (e + 1)), some (.inl e)]) 24 rfl rfl (Nat.le_of_ble_eq_true rfl) rfl ?_
          refine p_iinc (y := e + 1) (ls' := [some (.inr (.inr 3)), some (.inl p), some (.inl (e + 1)), some (.inl (e + 1))]) 27 rfl rfl rfl (w32_id ⟨(by omega), (by omega)⟩) rfl ?_
          refine p_goto 4 rfl rfl ?_
          -- leaf 3: loop 4 [some (.inr (.inr 3)), some (.inl p), some (.inl (e + 1)), some (.inl (e + 1))] st=[] h=h 
          refine ih (e + 1) (by omega) (by omega) (fun i i0 i1 => ?_)
          by_cases z : i = e
          · rw [z]; exact ⟨by omega, by omega⟩
          · exact al i i0 (by omega)
  refine p_iload 1 rfl rfl rfl ?_
  refine p_istore (ls' := [some (.inr (.inr 3)), some (.inl p), some (.inl p), none]) 2 rfl rfl (Nat.le_of_ble_eq_true rfl) rfl ?_
  refine p_iload 3 rfl rfl rfl ?_
  refine p_istore (ls' := [some (.inr (.inr 3)), some (.inl p), some (.inl p), some (.inl p)]) 4 rfl rfl (Nat.le_of_ble_eq_true rfl) rfl ?_
  -- leaf 1: loop 4 [some (.inr (.inr 3)), some (.inl p), some (.inl p), some (.inl p)] st=[] h=h 
  exact J (n - p).toNat p (by omega) (Int.le_refl p) (fun i i0 i1 => by omega)
theorem x_numberEnd {d : Nat} {h : PH} {q : PQ} (S : Shape h) (p : Int) {T : Int → Int} {n : Int} (O : TxO T n) (X : TxX h T n) (p0 : 0 ≤ p) (p1 : p ≤ n) (K : ∀ e, (ends isDig T p e ∧ e ≤ n) → q (some (.inl e)) h) : Wp (d + 3) 0 0 M_X9_numberEnd 0 [some (.inr (.inr 3)), some (.inl p), none, none] [] h q := by
  have hn := X.1
  have n7 := O.1
  have J : ∀ (c : Nat) (e : Int), e + c = n → p ≤ e → (∀ i, p ≤ i → i < e → isDig (T i)) → Wp (d + 3) 0 0 M_X9_numberEnd 4 [some (.inr (.inr 3)), some (.inl p), some (.inl e), some (.inl e)] [] h q := by
    intro c
    induction c with
    | zero =>
      intro e he pe al
      refine p_iload 5 rfl rfl rfl ?_
      refine p_aload 6 rfl rfl rfl ?_
      refine p_getfi (j := 1) (z := n) 9 rfl rfl rfl (tg_3 S) rfl hn ?_
      refine p_ic_ge_t 30 rfl rfl (by omega) ?_
      refine p_iload 31 rfl rfl rfl ?_
      refine p_iret rfl rfl ?_
      -- leaf 1: answer [.inl e] h=h 
      exact K e ⟨⟨pe, al, fun z => by have := O.2.2 e (by omega); omega⟩, by omega⟩
    | succ c ih =>
      intro e he pe al
      refine p_iload 5 rfl rfl rfl ?_
      refine p_aload 6 rfl rfl rfl ?_
      refine p_getfi (j := 1) (z := n) 9 rfl rfl rfl (tg_3 S) rfl hn ?_
      refine p_ic_ge_f 12 rfl rfl (by omega) ?_
      refine p_aload 13 rfl rfl rfl ?_
      refine p_iload 14 rfl rfl rfl ?_
      refine p_callv (le := [some (.inr (.inr 3)), some (.inl e), none]) (as := [.inr (.inr 3), .inl e]) (rest := []) 17 0 0 0 0 rfl rfl (Nat.le_of_ble_eq_true rfl) rfl (Nat.le_of_ble_eq_true rfl) rfl rfl (Nat.le_of_ble_eq_true rfl) rfl (Nat.le_of_ble_eq_true rfl) rfl (Nat.le_refl _) (Nat.le_refl _) rfl rfl (tg_3 S) ?_
      refine p_aload 1 rfl rfl rfl ?_
      refine p_iload 2 rfl rfl rfl ?_
      refine p_callv (le := [some (.inr (.inr 3)), some (.inl e)]) (as := [.inr (.inr 3), .inl e]) (rest := []) 5 0 0 0 0 rfl rfl (Nat.le_of_ble_eq_true rfl) rfl (Nat.le_of_ble_eq_true rfl) rfl rfl (Nat.le_of_ble_eq_true rfl) rfl (Nat.le_of_ble_eq_true rfl) rfl (Nat.le_refl _) (Nat.le_refl _) rfl rfl (tg_3 S) ?_
      refine x_at S e O X ?_
      show Wp (d + 2) 0 0 M_X9_digitAt 5 [some (.inr (.inr 3)), some (.inl e), none] [.inl (T e)] h _
      refine p_istore (ls' := [some (.inr (.inr 3)), some (.inl e), some (.inl (T e))]) 6 rfl rfl (Nat.le_of_ble_eq_true rfl) rfl ?_
      refine p_iload 7 rfl rfl rfl ?_
      refine p_const 9 rfl rfl ?_
      refine p_ic_lt 12 22 rfl rfl rfl (fun c2 => ?_) (fun c2 => ?_)
      · skip
        refine p_const 23 rfl rfl ?_
        refine p_zret rfl rfl (by decide) ?_
        show Wp (d + 3) 0 0 M_X9_numberEnd 17 [some (.inr (.inr 3)), some (.inl p), some (.inl e), some (.inl e)] [.inl 0] h _
        refine p_if_eq_t 30 rfl rfl (by decide) ?_
        refine p_iload 31 rfl rfl rfl ?_
        refine p_iret rfl rfl ?_
        -- leaf 1: answer [.inl e] h=h 
        exact K e ⟨⟨pe, al, fun z => by omega⟩, by omega⟩
      · skip
        refine p_iload 13 rfl rfl rfl ?_
        refine p_const 15 rfl rfl ?_
        refine p_ic_gt 18 22 rfl rfl rfl (fun c3 => ?_) (fun c3 => ?_)
        · skip
          refine p_const 23 rfl rfl ?_
          refine p_zret rfl rfl (by decide) ?_
          show Wp (d + 3) 0 0 M_X9_numberEnd 17 [some (.inr (.inr 3)), some (.inl p), some (.inl e), some (.inl e)] [.inl 0] h _
          refine p_if_eq_t 30 rfl rfl (by decide) ?_
          refine p_iload 31 rfl rfl rfl ?_
          refine p_iret rfl rfl ?_
          -- leaf 2: answer [.inl e] h=h 
          exact K e ⟨⟨pe, al, fun z => by omega⟩, by omega⟩
        · skip
          refine p_const 19 rfl rfl ?_
          refine p_goto 23 rfl rfl ?_
          refine p_zret rfl rfl (by decide) ?_
          show Wp (d + 3) 0 0 M_X9_numberEnd 17 [some (.inr (.inr 3)), some (.inl p), some (.inl e), some (.inl e)] [.inl 1] h _
          refine p_if_eq_f 20 rfl rfl (by decide) ?_
          refine p_iload 21 rfl rfl rfl ?_
          refine p_const 22 rfl rfl ?_
          refine p_iadd (z := e + 1) 23 rfl rfl (w32_id ⟨(by omega), (by omega)⟩) ?_
          refine p_istore (ls' := [some (.inr (.inr 3)), some (.inl p), some (.inl (e + 1)), some (.inl e)]) 24 rfl rfl (Nat.le_of_ble_eq_true rfl) rfl ?_
          refine p_iinc (y := e + 1) (ls' := [some (.inr (.inr 3)), some (.inl p), some (.inl (e + 1)), some (.inl (e + 1))]) 27 rfl rfl rfl (w32_id ⟨(by omega), (by omega)⟩) rfl ?_
          refine p_goto 4 rfl rfl ?_
          -- leaf 3: loop 4 [some (.inr (.inr 3)), some (.inl p), some (.inl (e + 1)), some (.inl (e + 1))] st=[] h=h 
          refine ih (e + 1) (by omega) (by omega) (fun i i0 i1 => ?_)
          by_cases z : i = e
          · rw [z]; exact ⟨by omega, by omega⟩
          · exact al i i0 (by omega)
  refine p_iload 1 rfl rfl rfl ?_
  refine p_istore (ls' := [some (.inr (.inr 3)), some (.inl p), some (.inl p), none]) 2 rfl rfl (Nat.le_of_ble_eq_true rfl) rfl ?_
  refine p_iload 3 rfl rfl rfl ?_
  refine p_istore (ls' := [some (.inr (.inr 3)), some (.inl p), some (.inl p), some (.inl p)]) 4 rfl rfl (Nat.le_of_ble_eq_true rfl) rfl ?_
  -- leaf 1: loop 4 [some (.inr (.inr 3)), some (.inl p), some (.inl p), some (.inl p)] st=[] h=h 
  exact J (n - p).toNat p (by omega) (Int.le_refl p) (fun i i0 i1 => by omega)
/-- the word of k letters from p on, as a number -/
def wv (T : Int → Int) (p : Int) : Nat → Int
  | 0 => 0
  | k + 1 => wv T p k * 32 + (T (p + k) - 97 + 1)
theorem wv_in {T : Int → Int} {p : Int} : ∀ {k : Nat}, (∀ i, p ≤ i → i < p + k → isLet (T i)) → 0 ≤ wv T p k ∧ wv T p k < 32 ^ k ∧ (0 < k → 0 < wv T p k)
  | 0, _ => ⟨Int.le_refl 0, by show (0 : Int) < 1; decide, fun z => absurd z (by decide)⟩
  | k + 1, al => by
    have ih := wv_in (k := k) (fun i i0 i1 => al i i0 (by omega))
    have l := al (p + k) (by omega) (by omega)
    show 0 ≤ wv T p k * 32 + (T (p + k) - 97 + 1) ∧ wv T p k * 32 + (T (p + k) - 97 + 1) < 32 ^ (k + 1) ∧ _
    rw [Int.pow_succ]
    exact ⟨by omega, by omega, fun _ => by show 0 < wv T p k * 32 + (T (p + k) - 97 + 1); omega⟩
theorem x_word {d : Nat} {h : PH} {q : PQ} (S : Shape h) (p e : Int) {T : Int → Int} {n : Int} (O : TxO T n) (X : TxX h T n) (p0 : 0 ≤ p) (pe : p ≤ e) (en : e ≤ n) (al : ∀ i, p ≤ i → i < e → isLet (T i)) (K : q (some (.inl (if e - p ≤ 6 then wv T p (e - p).toNat else 0))) h) : Wp (d + 2) 0 0 M_X9_word 0 [some (.inr (.inr 3)), some (.inl p), some (.inl e), none, none] [] h q := by
  have n7 := O.1
  have J : ∀ (c k : Nat) (i : Int), e - p ≤ 6 → i = p + k → i + c = e → Wp (d + 2) 0 0 M_X9_word 15 [some (.inr (.inr 3)), some (.inl p), some (.inl e), some (.inl (wv T p k)), some (.inl i)] [] h q := by
    intro c
    induction c with
    | zero =>
      intro k i e6 hi he
      rw [if_pos e6, show (e - p).toNat = k by omega] at K
      refine p_iload 17 rfl rfl rfl ?_
      refine p_iload 18 rfl rfl rfl ?_
      refine p_ic_ge_t 43 rfl rfl (by omega) ?_
      refine p_iload 44 rfl rfl rfl ?_
      refine p_iret rfl rfl ?_
      -- leaf 1: answer [.inl (wv T p k)] h=h 
      exact K
    | succ c ih =>
      intro k i e6 hi he
      have wi := wv_in (T := T) (p := p) (k := k) (fun j j0 j1 => al j j0 (by omega))
      have li := al i (by omega) (by omega)
      have b25 : wv T p k < 33554432 := by
        have h1 : (32 : Nat) ^ k ≤ 32 ^ 5 := Nat.pow_le_pow_right (by decide) (by omega)
        have e1 : ((32 ^ k : Nat) : Int) = 32 ^ k := Int.natCast_pow 32 k
        have e2 : (32 : Nat) ^ 5 = 33554432 := by decide
        omega
      refine p_iload 17 rfl rfl rfl ?_
      refine p_iload 18 rfl rfl rfl ?_
      refine p_ic_ge_f 21 rfl rfl (by omega) ?_
      refine p_iload 22 rfl rfl rfl ?_
      refine p_const 23 rfl rfl ?_
      refine p_ishl (z := (wv T p k) * 32) 24 rfl rfl (by decide) (by decide) (w32_id (x := (wv T p k) * 32) ⟨(by omega), (by omega)⟩) ?_
      refine p_aload 25 rfl rfl rfl ?_
      refine p_iload 27 rfl rfl rfl ?_
      refine p_callv (le := [some (.inr (.inr 3)), some (.inl i)]) (as := [.inr (.inr 3), .inl i]) (rest := [.inl ((wv T p k) * 32)]) 30 0 0 0 0 rfl rfl (Nat.le_of_ble_eq_true rfl) rfl (Nat.le_of_ble_eq_true rfl) rfl rfl (Nat.le_of_ble_eq_true rfl) rfl (Nat.le_of_ble_eq_true rfl) rfl (Nat.le_refl _) (Nat.le_refl _) rfl rfl (tg_3 S) ?_
      refine x_at S i O X ?_
      show Wp (d + 2) 0 0 M_X9_word 30 [some (.inr (.inr 3)), some (.inl p), some (.inl e), some (.inl (wv T p k)), some (.inl i)] [.inl (T i), .inl ((wv T p k) * 32)] h _
      refine p_const 32 rfl rfl ?_
      refine p_isub (z := (T i) - 97) 33 rfl rfl (w32_id ⟨(by omega), (by omega)⟩) ?_
      refine p_const 34 rfl rfl ?_
      refine p_iadd (z := ((T i) - 97) + 1) 35 rfl rfl (w32_id ⟨(by omega), (by omega)⟩) ?_
      refine p_ior (z := or32 ((wv T p k) * 32) (((T i) - 97) + 1)) 36 rfl rfl rfl ?_
      refine p_istore (ls' := [some (.inr (.inr 3)), some (.inl p), some (.inl e), some (.inl (or32 ((wv T p k) * 32) (((T i) - 97) + 1))), some (.inl i)]) 37 rfl rfl (Nat.le_of_ble_eq_true rfl) rfl ?_
      refine p_iinc (y := i + 1) (ls' := [some (.inr (.inr 3)), some (.inl p), some (.inl e), some (.inl (or32 ((wv T p k) * 32) (((T i) - 97) + 1))), some (.inl (i + 1))]) 40 rfl rfl rfl (w32_id ⟨(by omega), (by omega)⟩) rfl ?_
      refine p_goto 15 rfl rfl ?_
      -- leaf 1: loop 15 [some (.inr (.inr 3)), some (.inl p), some (.inl e), some (.inl (or32 ((wv T p k) * 32) (((T i) - 97) + 1))), some (.inl (i + 1))] st=[] h=h 
      rw [or32_add wi.1 (by omega) (by omega) (by omega)]
      have z := ih (k + 1) (i + 1) e6 (by omega) (by omega)
      have ew : wv T p (k + 1) = wv T p k * 32 + (T i - 97 + 1) := by rw [hi]; rfl
      rw [ew] at z; exact z
  refine p_iload 1 rfl rfl rfl ?_
  refine p_iload 2 rfl rfl rfl ?_
  refine p_isub (z := e - p) 3 rfl rfl (w32_id ⟨(by omega), (by omega)⟩) ?_
  refine p_const 5 rfl rfl ?_
  refine p_ic_le 8 10 rfl rfl rfl (fun c1 => ?_) (fun c1 => ?_)
  · skip
    refine p_const 11 rfl rfl ?_
    refine p_istore (ls' := [some (.inr (.inr 3)), some (.inl p), some (.inl e), some (.inl 0), none]) 12 rfl rfl (Nat.le_of_ble_eq_true rfl) rfl ?_
    refine p_iload 13 rfl rfl rfl ?_
    refine p_istore (ls' := [some (.inr (.inr 3)), some (.inl p), some (.inl e), some (.inl 0), some (.inl p)]) 15 rfl rfl (Nat.le_of_ble_eq_true rfl) rfl ?_
    -- leaf 1: loop 15 [some (.inr (.inr 3)), some (.inl p), some (.inl e), some (.inl 0), some (.inl p)] st=[] h=h 
    exact J (e - p).toNat 0 p (by omega) (by omega) (by omega)
  · skip
    refine p_const 9 rfl rfl ?_
    refine p_iret rfl rfl ?_
    -- leaf 2: answer [.inl 0] h=h 
    rw [if_neg (by omega)] at K; exact K
/-! the model's side: at is 66.2, ended 66.4, bad 66.5, its place 66.6 -/
def lukA (a i : Int) : Bool := decide (a = 66 ∧ i = 2)
/-- a reader stands at p and the next that is not blank stands at e -/
def nxt (T : Int → Int) (p e : Int) : Prop := ends isBl T p e
theorem m_look {d : Nat} {h : PH} {q : PQ} (S : Shape h) {T : Int → Int} {n p : Int} (O : TxO T n) (X : TxM h T n) (hp : gv h 66 2 = p) (p0 : 0 ≤ p) (p1 : p ≤ n) (K : ∀ r h', (Keep lukA h h' ∧ ∃ e, nxt T p e ∧ e ≤ n ∧ gv h' 66 2 = e ∧ r = T e) → Shape h' → q (some (.inl r)) h') : Wp (d + 1) 0 0 M_X12_look 0 [some (.inr (.inr 66))] [] h q := by
  have n7 := O.1
  have J : ∀ (c : Nat) (e : Int) (h1 : PH), e + c = n → p ≤ e → (∀ i, p ≤ i → i < e → isBl (T i)) → Shape h1 → Keep lukA h h1 → gv h1 66 2 = e → Wp (d + 1) 0 0 M_X12_look 0 [some (.inr (.inr 66))] [] h1 q := by
    intro c
    induction c with
    | zero =>
      intro e h1 he pe al S1 k1 g
      have hn : gv h1 66 3 = n := (k1.1 66 3 rfl).trans X.1
      have z := O.2.2 e (by omega)
      refine p_aload 1 rfl rfl rfl ?_
      refine p_getfi (j := 2) (z := e) 4 rfl rfl rfl (tg_66 S1) rfl g ?_
      refine p_aload 5 rfl rfl rfl ?_
      refine p_getfi (j := 3) (z := n) 8 rfl rfl rfl (tg_66 S1) rfl hn ?_
      refine p_ic_ge_t 52 rfl rfl (by omega) ?_
      refine p_aload 53 rfl rfl rfl ?_
      refine p_getfi (j := 2) (z := e) 56 rfl rfl rfl (tg_66 S1) rfl g ?_
      refine p_aload 57 rfl rfl rfl ?_
      refine p_getfi (j := 3) (z := n) 60 rfl rfl rfl (tg_66 S1) rfl hn ?_
      refine p_ic_ge_t 75 rfl rfl (by omega) ?_
      refine p_const 76 rfl rfl ?_
      refine p_iret rfl rfl ?_
      -- leaf 1: answer [.inl (-1)] h=h1 
      exact K _ h1 ⟨k1, e, ⟨pe, al, fun y => by omega⟩, by omega, g, z.symm⟩ S1
    | succ c ih =>
      intro e h1 he pe al S1 k1 g
      have hn : gv h1 66 3 = n := (k1.1 66 3 rfl).trans X.1
      have hT : gv h1 67 e = T e := (k1.1 67 e rfl).trans (X.2 e (by omega) (by omega))
      refine p_aload 1 rfl rfl rfl ?_
      refine p_getfi (j := 2) (z := e) 4 rfl rfl rfl (tg_66 S1) rfl g ?_
      refine p_aload 5 rfl rfl rfl ?_
      refine p_getfi (j := 3) (z := n) 8 rfl rfl rfl (tg_66 S1) rfl hn ?_
      refine p_ic_ge_f 11 rfl rfl (by omega) ?_
      refine p_aload 12 rfl rfl rfl ?_
      refine p_getfr (j := 0) (z := 67) 15 rfl rfl rfl (tg_66 S1) rfl (fi_66_0 S1) ?_
      refine p_aload 16 rfl rfl rfl ?_
      refine p_getfi (j := 2) (z := e) 19 rfl rfl rfl (tg_66 S1) rfl g ?_
      refine p_iald (w := 700) (z := (T e)) 20 rfl rfl (tg_67 S1) (ln_67 S1) (by omega) (by omega) hT ?_
      refine p_const 22 rfl rfl ?_
      refine p_ic_eq 25 39 rfl rfl rfl (fun c1 => ?_) (fun c1 => ?_)
      · skip
        refine p_aload 40 rfl rfl rfl ?_
        refine p_dup 41 rfl rfl nl_r ?_
        refine p_getfi (j := 2) (z := e) 44 rfl rfl rfl (tg_66 S1) rfl g ?_
        refine p_const 45 rfl rfl ?_
        refine p_iadd (z := e + 1) 46 rfl rfl (w32_id ⟨(by omega), (by omega)⟩) ?_
        refine p_putfi (j := 2) 49 rfl rfl rfl (fun z => absurd z (by decide)) (tg_66 S1) rfl ?_
        refine p_nmh (fun y2 e2 => ?_)
        have S2 : Shape y2 := by rw [e2]; exact S1.svF ff_66_2 _
        refine p_goto 0 rfl rfl ?_
        -- leaf 1: loop 0 [some (.inr (.inr 66))] st=[] h=y2 e2
        refine ih (e + 1) _ (by omega) (by omega) (fun i i0 i1 => ?_) S2 (by rw [e2]; exact k1.sv rfl _) (by rw [e2, sv_eq])
        by_cases z : i = e
        · rw [z]; exact Or.inl (by assumption)
        · exact al i i0 (by omega)
      · skip
        refine p_aload 26 rfl rfl rfl ?_
        refine p_getfr (j := 0) (z := 67) 29 rfl rfl rfl (tg_66 S1) rfl (fi_66_0 S1) ?_
        refine p_aload 30 rfl rfl rfl ?_
        refine p_getfi (j := 2) (z := e) 33 rfl rfl rfl (tg_66 S1) rfl g ?_
        refine p_iald (w := 700) (z := (T e)) 34 rfl rfl (tg_67 S1) (ln_67 S1) (by omega) (by omega) hT ?_
        refine p_const 36 rfl rfl ?_
        refine p_ic_ne 39 52 rfl rfl rfl (fun c3 => ?_) (fun c3 => ?_)
        · skip
          refine p_aload 53 rfl rfl rfl ?_
          refine p_getfi (j := 2) (z := e) 56 rfl rfl rfl (tg_66 S1) rfl g ?_
          refine p_aload 57 rfl rfl rfl ?_
          refine p_getfi (j := 3) (z := n) 60 rfl rfl rfl (tg_66 S1) rfl hn ?_
          refine p_ic_ge_f 63 rfl rfl (by omega) ?_
          refine p_aload 64 rfl rfl rfl ?_
          refine p_getfr (j := 0) (z := 67) 67 rfl rfl rfl (tg_66 S1) rfl (fi_66_0 S1) ?_
          refine p_aload 68 rfl rfl rfl ?_
          refine p_getfi (j := 2) (z := e) 71 rfl rfl rfl (tg_66 S1) rfl g ?_
          refine p_iald (w := 700) (z := (T e)) 72 rfl rfl (tg_67 S1) (ln_67 S1) (by omega) (by omega) hT ?_
          refine p_goto 76 rfl rfl ?_
          refine p_iret rfl rfl ?_
          -- leaf 2: answer [.inl (T e)] h=h1 
          exact K _ h1 ⟨k1, e, ⟨pe, al, fun y => by omega⟩, by omega, g, rfl⟩ S1
        · skip
          refine p_aload 40 rfl rfl rfl ?_
          refine p_dup 41 rfl rfl nl_r ?_
          refine p_getfi (j := 2) (z := e) 44 rfl rfl rfl (tg_66 S1) rfl g ?_
          refine p_const 45 rfl rfl ?_
          refine p_iadd (z := e + 1) 46 rfl rfl (w32_id ⟨(by omega), (by omega)⟩) ?_
          refine p_putfi (j := 2) 49 rfl rfl rfl (fun z => absurd z (by decide)) (tg_66 S1) rfl ?_
          refine p_nmh (fun y4 e4 => ?_)
          have S4 : Shape y4 := by rw [e4]; exact S1.svF ff_66_2 _
          refine p_goto 0 rfl rfl ?_
          -- leaf 3: loop 0 [some (.inr (.inr 66))] st=[] h=y4 e4
          refine ih (e + 1) _ (by omega) (by omega) (fun i i0 i1 => ?_) S4 (by rw [e4]; exact k1.sv rfl _) (by rw [e4, sv_eq])
          by_cases z : i = e
          · rw [z]; exact Or.inr (by omega)
          · exact al i i0 (by omega)
  exact J (n - p).toNat p h (by omega) (Int.le_refl p) (fun i i0 i1 => by omega) S (Keep.rf _ _) hp
def lsrA (a i : Int) : Bool := decide (a = 66 ∧ (i = 2 ∨ i = 4 ∨ i = 5 ∨ i = 6))
theorem lukA_lsr : ∀ a i, lsrA a i = false → lukA a i = false := fun a i => dw (by omega)
theorem m_letters {d : Nat} {h : PH} {q : PQ} (S : Shape h) (mx : Int) {T : Int → Int} {n p : Int} (O : TxO T n) (X : TxM h T n) (hp : gv h 66 2 = p) (hb : gv h 66 5 = 0) (p0 : 0 ≤ p) (p1 : p ≤ n) (m0 : 0 ≤ mx) (m6 : mx ≤ 6)
    (K : ∀ r h', (Keep lsrA h h' ∧ ∃ e, ends isLet T p e ∧ e ≤ n ∧ ((e - p ≤ mx ∧ r = wv T p (e - p).toNat ∧ gv h' 66 2 = e ∧ gv h' 66 4 = e ∧ gv h' 66 5 = 0 ∧ gv h' 66 6 = gv h 66 6) ∨ (mx < e - p ∧ r = 0 ∧ gv h' 66 2 = p + mx ∧ gv h' 66 4 = gv h 66 4 ∧ gv h' 66 5 = 1 ∧ gv h' 66 6 = p + mx))) → Shape h' → q (some (.inr (.inl r))) h') :
    Wp (d + 2) 0 0 M_X12_letters 0 [some (.inr (.inr 66)), some (.inl mx), none, none, none] [] h q := by
  have n7 := O.1
  have J : ∀ (c k : Nat) (i : Int) (h1 : PH), i + c = n → i = p + k → (k : Int) ≤ mx → (∀ j, p ≤ j → j < i → isLet (T j)) → Shape h1 → Keep lukA h h1 → gv h1 66 2 = i → Wp (d + 2) 0 0 M_X12_letters 7 [some (.inr (.inr 66)), some (.inl mx), some (.inl p), some (.inr (.inl (wv T p k))), none] [] h1 q := by
    intro c
    have fin : ∀ (k : Nat) (i : Int) (h1 : PH), i ≤ n → i = p + k → (k : Int) ≤ mx → (∀ j, p ≤ j → j < i → isLet (T j)) → Shape h1 → Keep lukA h h1 → gv h1 66 2 = i → ¬ isLet (T i) → Wp (d + 2) 0 0 M_X12_letters 90 [some (.inr (.inr 66)), some (.inl mx), some (.inl p), some (.inr (.inl (wv T p k))), none] [] h1 q := by
      intro k i h1 hi hk km al S1 k1 g nl
      refine p_aload 91 rfl rfl rfl ?_
      refine p_aload 92 rfl rfl rfl ?_
      refine p_getfi (j := 2) (z := i) 95 rfl rfl rfl (tg_66 S1) rfl g ?_
      refine p_putfi (j := 4) 98 rfl rfl rfl (fun z => absurd z (by decide)) (tg_66 S1) rfl ?_
      refine p_nmh (fun y1 e1 => ?_)
      have S1 : Shape y1 := by rw [e1]; exact S1.svF ff_66_4 _
      refine p_lload 99 rfl rfl rfl ?_
      refine p_lret rfl rfl ?_
      -- leaf 1: answer [.inr (.inl (wv T p k))] h=y1 e1
      refine K _ _ ⟨by rw [e1]; exact (k1.wide lukA_lsr).sv rfl _, i, ⟨by omega, al, nl⟩, hi, Or.inl ⟨by omega, by rw [show (i - p).toNat = k by omega], ?_, ?_, ?_, ?_⟩⟩ S1
      · rw [e1, sv_nf (by decide)]; exact g
      · rw [e1, sv_eq]
      · rw [e1, sv_nf (by decide)]; exact (k1.1 66 5 rfl).trans hb
      · rw [e1, sv_nf (by decide)]; exact k1.1 66 6 rfl
    induction c with
    | zero =>
      intro k i h1 hi hk km al S1 k1 g
      have hn : gv h1 66 3 = n := (k1.1 66 3 rfl).trans X.1
      have z := O.2.2 i (by omega)
      refine p_aload 8 rfl rfl rfl ?_
      refine p_getfi (j := 2) (z := i) 11 rfl rfl rfl (tg_66 S1) rfl g ?_
      refine p_aload 12 rfl rfl rfl ?_
      refine p_getfi (j := 3) (z := n) 15 rfl rfl rfl (tg_66 S1) rfl hn ?_
      refine p_ic_ge_t 90 rfl rfl (by omega) ?_
      -- leaf 1: loop 90 [some (.inr (.inr 66)), some (.inl mx), some (.inl p), some (.inr (.inl (wv T p k))), none] st=[] h=h1 
      exact fin k i h1 (by omega) hk km al S1 k1 g (by omega)
    | succ c ih =>
      intro k i h1 hi hk km al S1 k1 g
      have hn : gv h1 66 3 = n := (k1.1 66 3 rfl).trans X.1
      have hT : gv h1 67 i = T i := (k1.1 67 i rfl).trans (X.2 i (by omega) (by omega))
      have h5 : gv h1 66 5 = 0 := (k1.1 66 5 rfl).trans hb
      have wi := wv_in (T := T) (p := p) (k := k) (fun j j0 j1 => al j j0 (by omega))
      have Ti := O.in_ i
      have b30 : wv T p k < 1073741824 := by
        have h1 : (32 : Nat) ^ k ≤ 32 ^ 6 := Nat.pow_le_pow_right (by decide) (by omega)
        have e1 : ((32 ^ k : Nat) : Int) = 32 ^ k := Int.natCast_pow 32 k
        have e2 : (32 : Nat) ^ 6 = 1073741824 := by decide
        omega
      refine p_aload 8 rfl rfl rfl ?_
      refine p_getfi (j := 2) (z := i) 11 rfl rfl rfl (tg_66 S1) rfl g ?_
      refine p_aload 12 rfl rfl rfl ?_
      refine p_getfi (j := 3) (z := n) 15 rfl rfl rfl (tg_66 S1) rfl hn ?_
      refine p_ic_ge_f 18 rfl rfl (by omega) ?_
      refine p_aload 19 rfl rfl rfl ?_
      refine p_getfr (j := 0) (z := 67) 22 rfl rfl rfl (tg_66 S1) rfl (fi_66_0 S1) ?_
      refine p_aload 23 rfl rfl rfl ?_
      refine p_getfi (j := 2) (z := i) 26 rfl rfl rfl (tg_66 S1) rfl g ?_
      refine p_iald (w := 700) (z := (T i)) 27 rfl rfl (tg_67 S1) (ln_67 S1) (by omega) (by omega) hT ?_
      refine p_calls (le := [some (.inl (T i))]) (as := [.inl (T i)]) (rest := []) 30 0 0 0 0 rfl rfl (Nat.le_of_ble_eq_true rfl) rfl (Nat.le_of_ble_eq_true rfl) rfl rfl (Nat.le_of_ble_eq_true rfl) rfl (Nat.le_of_ble_eq_true rfl) rfl (Nat.le_refl _) (Nat.le_refl _) rfl rfl ?_
      refine p_iload 1 rfl rfl rfl ?_
      refine p_const 3 rfl rfl ?_
      refine p_ic_lt 6 16 rfl rfl rfl (fun c1 => ?_) (fun c1 => ?_)
      · skip
        refine p_const 17 rfl rfl ?_
        refine p_zret rfl rfl (by decide) ?_
        show Wp (d + 2) 0 0 M_X12_letters 30 [some (.inr (.inr 66)), some (.inl mx), some (.inl p), some (.inr (.inl (wv T p k))), none] [.inl 0] h1 _
        refine p_if_eq_t 90 rfl rfl (by decide) ?_
        -- leaf 1: loop 90 [some (.inr (.inr 66)), some (.inl mx), some (.inl p), some (.inr (.inl (wv T p k))), none] st=[] h=h1 
        exact fin k i h1 (by omega) hk km al S1 k1 g (by omega)
      · skip
        refine p_iload 7 rfl rfl rfl ?_
        refine p_const 9 rfl rfl ?_
        refine p_ic_gt 12 16 rfl rfl rfl (fun c2 => ?_) (fun c2 => ?_)
        · skip
          refine p_const 17 rfl rfl ?_
          refine p_zret rfl rfl (by decide) ?_
          show Wp (d + 2) 0 0 M_X12_letters 30 [some (.inr (.inr 66)), some (.inl mx), some (.inl p), some (.inr (.inl (wv T p k))), none] [.inl 0] h1 _
          refine p_if_eq_t 90 rfl rfl (by decide) ?_
          -- leaf 2: loop 90 [some (.inr (.inr 66)), some (.inl mx), some (.inl p), some (.inr (.inl (wv T p k))), none] st=[] h=h1 
          exact fin k i h1 (by omega) hk km al S1 k1 g (by omega)
        · skip
          refine p_const 13 rfl rfl ?_
          refine p_goto 17 rfl rfl ?_
          refine p_zret rfl rfl (by decide) ?_
          show Wp (d + 2) 0 0 M_X12_letters 30 [some (.inr (.inr 66)), some (.inl mx), some (.inl p), some (.inr (.inl (wv T p k))), none] [.inl 1] h1 _
          refine p_if_eq_f 33 rfl rfl (by decide) ?_
          refine p_aload 34 rfl rfl rfl ?_
          refine p_getfi (j := 2) (z := i) 37 rfl rfl rfl (tg_66 S1) rfl g ?_
          refine p_iload 38 rfl rfl rfl ?_
          refine p_isub (z := i - p) 39 rfl rfl (w32_id ⟨(by omega), (by omega)⟩) ?_
          refine p_iload 40 rfl rfl rfl ?_
          refine p_ic_ne 43 54 rfl rfl rfl (fun c3 => ?_) (fun c3 => ?_)
          · skip
            refine p_lconst 57 rfl rfl ?_
            refine p_lload 58 rfl rfl rfl ?_
            refine p_lmul (z := 32 * (wv T p k)) 59 rfl rfl (w64_id ⟨(by omega), (by omega)⟩) ?_
            refine p_aload 60 rfl rfl rfl ?_
            refine p_getfr (j := 0) (z := 67) 63 rfl rfl rfl (tg_66 S1) rfl (fi_66_0 S1) ?_
            refine p_aload 64 rfl rfl rfl ?_
            refine p_getfi (j := 2) (z := i) 67 rfl rfl rfl (tg_66 S1) rfl g ?_
            refine p_iald (w := 700) (z := (T i)) 68 rfl rfl (tg_67 S1) (ln_67 S1) (by omega) (by omega) hT ?_
            refine p_i2l 69 rfl rfl ?_
            refine p_ladd (z := (32 * (wv T p k)) + (T i)) 70 rfl rfl (w64_id ⟨(by omega), (by omega)⟩) ?_
            refine p_lconst 73 rfl rfl ?_
            refine p_lsub (z := ((32 * (wv T p k)) + (T i)) - 97) 74 rfl rfl (w64_id ⟨(by omega), (by omega)⟩) ?_
            refine p_lconst 75 rfl rfl ?_
            refine p_ladd (z := (((32 * (wv T p k)) + (T i)) - 97) + 1) 76 rfl rfl (w64_id ⟨(by omega), (by omega)⟩) ?_
            refine p_lstore (ls' := [some (.inr (.inr 66)), some (.inl mx), some (.inl p), some (.inr (.inl ((((32 * (wv T p k)) + (T i)) - 97) + 1))), none]) 77 rfl rfl (Nat.le_of_ble_eq_true rfl) rfl ?_
            refine p_aload 78 rfl rfl rfl ?_
            refine p_dup 79 rfl rfl nl_r ?_
            refine p_getfi (j := 2) (z := i) 82 rfl rfl rfl (tg_66 S1) rfl g ?_
            refine p_const 83 rfl rfl ?_
            refine p_iadd (z := i + 1) 84 rfl rfl (w32_id ⟨(by omega), (by omega)⟩) ?_
            refine p_putfi (j := 2) 87 rfl rfl rfl (fun z => absurd z (by decide)) (tg_66 S1) rfl ?_
            refine p_nmh (fun y4 e4 => ?_)
            have S4 : Shape y4 := by rw [e4]; exact S1.svF ff_66_2 _
            refine p_goto 7 rfl rfl ?_
            -- leaf 3: loop 7 [some (.inr (.inr 66)), some (.inl mx), some (.inl p), some (.inr (.inl ((((32 * (wv T p k)) + (T i)) - 97) + 1))), none] st=[] h=y4 e4
            have z := ih (k + 1) (i + 1) _ (by omega) (by omega) (by omega) (fun j j0 j1 => by by_cases z : j = i; rw [z]; exact ⟨by omega, by omega⟩; exact al j j0 (by omega)) S4 (by rw [e4]; exact k1.sv rfl _) (by rw [e4, sv_eq])
            have ew : wv T p (k + 1) = wv T p k * 32 + (T i - 97 + 1) := by rw [hk]; rfl
            rw [show 32 * wv T p k + T i - 97 + 1 = wv T p (k + 1) by omega]
            exact z
          · skip
            refine p_aload 44 rfl rfl rfl ?_
            refine p_const 45 rfl rfl ?_
            refine p_aload 46 rfl rfl rfl ?_
            refine p_getfi (j := 2) (z := i) 49 rfl rfl rfl (tg_66 S1) rfl g ?_
            refine p_callv (le := [some (.inr (.inr 66)), some (.inl 1), some (.inl i)]) (as := [.inr (.inr 66), .inl 1, .inl i]) (rest := []) 52 0 0 0 0 rfl rfl (Nat.le_of_ble_eq_true rfl) rfl (Nat.le_of_ble_eq_true rfl) rfl rfl (Nat.le_of_ble_eq_true rfl) rfl (Nat.le_of_ble_eq_true rfl) rfl (Nat.le_refl _) (Nat.le_refl _) rfl rfl (tg_66 S1) ?_
            refine p_aload 1 rfl rfl rfl ?_
            refine p_getfi (j := 5) (z := 0) 4 rfl rfl rfl (tg_66 S1) rfl h5 ?_
            refine p_if_eq_t 8 rfl rfl (by decide) ?_
            refine p_aload 9 rfl rfl rfl ?_
            refine p_iload 10 rfl rfl rfl ?_
            refine p_putfi (j := 5) 13 rfl rfl rfl (fun z => absurd z (by decide)) (tg_66 S1) rfl ?_
            refine p_nmh (fun y5 e5 => ?_)
            have S5 : Shape y5 := by rw [e5]; exact S1.svF ff_66_5 _
            refine p_aload 14 rfl rfl rfl ?_
            refine p_iload 15 rfl rfl rfl ?_
            refine p_putfi (j := 6) 18 rfl rfl rfl (fun z => absurd z (by decide)) (tg_66 S5) rfl ?_
            refine p_nmh (fun y6 e6 => ?_)
            have S6 : Shape y6 := by rw [e6]; exact S5.svF ff_66_6 _
            refine p_ret rfl rfl ?_
            show Wp (d + 2) 0 0 M_X12_letters 52 [some (.inr (.inr 66)), some (.inl mx), some (.inl p), some (.inr (.inl (wv T p k))), none] [] y6 _
            refine p_lconst 53 rfl rfl ?_
            refine p_lret rfl rfl ?_
            -- leaf 4: answer [.inr (.inl 0)] h=y6 e6,e5
            obtain ⟨e, he, en⟩ := ends_ex (P := isLet) (p := p) O p1 (fun z => by omega) rfl
            have ie : i < e := by
              obtain ⟨a1, a2, a3⟩ := he
              apply Decidable.byContradiction
              intro y
              by_cases ee : e = i
              · rw [ee] at a3; exact a3 ⟨by omega, by omega⟩
              · exact a3 (al e a1 (by omega))
            refine K _ _ ⟨by rw [e6, e5]; exact ((k1.wide lukA_lsr).sv rfl _).sv rfl _, e, he, en, Or.inr ⟨by omega, rfl, ?_, ?_, ?_, ?_⟩⟩ S6
            · rw [e6, sv_nf (by decide), e5, sv_nf (by decide), g]; omega
            · rw [e6, sv_nf (by decide), e5, sv_nf (by decide)]; exact k1.1 66 4 rfl
            · rw [e6, sv_nf (by decide), e5, sv_eq]
            · rw [e6, sv_eq]; omega
  refine p_aload 1 rfl rfl rfl ?_
  refine p_getfi (j := 2) (z := p) 4 rfl rfl rfl (tg_66 S) rfl hp ?_
  refine p_istore (ls' := [some (.inr (.inr 66)), some (.inl mx), some (.inl p), none, none]) 5 rfl rfl (Nat.le_of_ble_eq_true rfl) rfl ?_
  refine p_lconst 6 rfl rfl ?_
  refine p_lstore (ls' := [some (.inr (.inr 66)), some (.inl mx), some (.inl p), some (.inr (.inl 0)), none]) 7 rfl rfl (Nat.le_of_ble_eq_true rfl) rfl ?_
  -- leaf 1: loop 7 [some (.inr (.inr 66)), some (.inl mx), some (.inl p), some (.inr (.inl 0)), none] st=[] h=h 
  exact J (n - p).toNat 0 p h (by omega) (by omega) (by omega) (fun i i0 i1 => by omega) S (Keep.rf _ _) hp

