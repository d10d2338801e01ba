/-! THE MODEL'S READER: going on by one token -/
theorem knd_5 {kb pb s k : Int} (h : k ≠ 5) : knd kb pb s k = 5 ↔ (wdy k ∧ wdy kb ∧ pb = s) := by
  unfold knd
  by_cases z : wdy k ∧ wdy kb ∧ pb = s
  · rw [if_pos z]; exact ⟨fun _ => z, fun _ => rfl⟩
  · rw [if_neg z]; exact ⟨fun y => absurd y h, fun y => absurd y z⟩
theorem TokC.dig {T : Int → Int} {s k e v : Int} (c : TokC T s k e v) (l : isDig (T s)) : k = 2 ∧ ends isDig T s e ∧ v = nv T s (if e - s ≤ 4 then e - s else 4).toNat := by
  rcases c with ⟨h, _⟩ | ⟨_, h, a, b⟩ | ⟨h, _⟩ | ⟨_, h, _⟩
  · omega
  · exact ⟨a, h, b⟩
  · omega
  · exact absurd l h
theorem TokA.dig {T : Int → Int} {n : Int} {L : List Tok} {i : Nat} (O : TxO T n) (A : TokA T n L i) (l : isDig (T (tk L i).2.1)) : ((tk L i).1 = 2 ∨ (tk L i).1 = 5) ∧ ends isDig T (tk L i).2.1 (tk L i).2.2.1 ∧ (tk L i).2.2.2 = nv T (tk L i).2.1 (if (tk L i).2.2.1 - (tk L i).2.1 ≤ 4 then (tk L i).2.2.1 - (tk L i).2.1 else 4).toNat ∧ (tk L i).2.2.1 ≤ n := by
  obtain ⟨_, _, ⟨_, e⟩ | ⟨_, en, k, c, e⟩⟩ := A
  · have z := O.2.2 n (by omega)
    rw [e, z] at l; omega
  · obtain ⟨a, b, v⟩ := c.dig l
    rw [a] at e
    refine ⟨?_, b, v, en.2⟩
    rw [e]; exact knd_or
theorem TokA.num {T : Int → Int} {n : Int} {L : List Tok} {i : Nat} (A : TokA T n L i) (z : (tk L i).1 = 2) : isDig (T (tk L i).2.1) := by
  obtain ⟨_, _, ⟨e, _⟩ | ⟨_, en, k, c, e⟩⟩ := A
  · omega
  · have k2 : k = 2 := by rcases knd_or (kb := (prv L i).1) (pb := (prv L i).2) (s := (tk L i).2.1) (k := k) with y | y <;> omega
    rcases c with ⟨_, _, h, _⟩ | ⟨h, _⟩ | ⟨_, _, h, _⟩ | ⟨_, _, _, _, h, _⟩
    · omega
    · exact h
    · omega
    · omega
/-- a sign stands at token i -/
theorem TokA.sg {T : Int → Int} {n : Int} {L : List Tok} {i : Nat} (O : TxO T n) (A : TokA T n L i) {c : Int} (c0 : 0 ≤ c) (nl : ¬ isLet c) (nd : ¬ isDig c) (n46 : c ≠ 46) : isSg L i c ↔ T (tk L i).2.1 = c := by
  obtain ⟨_, _, ⟨e, e2⟩ | ⟨_, en, k, tc, e⟩⟩ := A
  · have z := O.2.2 n (by omega)
    constructor
    · intro y; have := y.1; omega
    · intro y; rw [e2, z] at y; omega
  · have k4 : (tk L i).1 = 4 ↔ k = 4 := by
      have kk := tc.k
      rcases knd_or (kb := (prv L i).1) (pb := (prv L i).2) (s := (tk L i).2.1) (k := k) with y | y
      · omega
      · have := (knd_5 (by omega)).1 y
        have w := this.1
        unfold wdy at w
        omega
    constructor
    · intro y
      have k4' := k4.1 y.1
      rcases tc with ⟨_, _, h, _⟩ | ⟨_, _, h, _⟩ | ⟨_, _, h, _⟩ | ⟨_, _, _, _, _, h⟩
      · omega
      · omega
      · omega
      · rw [← h]; exact y.2
    · intro y
      rcases tc with ⟨h, _⟩ | ⟨h, _⟩ | ⟨h, _⟩ | ⟨_, _, _, _, h, h2⟩
      · rw [y] at h; exact absurd h nl
      · rw [y] at h; exact absurd h nd
      · rw [y] at h; exact absurd h n46
      · exact ⟨k4.2 h, by rw [h2]; exact y⟩
theorem TokA.sgE {T : Int → Int} {n : Int} {L : List Tok} {i : Nat} (A : TokA T n L i) (z : (tk L i).1 = 4) : (tk L i).2.2.1 = (tk L i).2.1 + 1 ∧ (tk L i).2.2.1 ≤ n := by
  obtain ⟨_, _, ⟨e, e2⟩ | ⟨_, en, k, tc, e⟩⟩ := A
  · omega
  · refine ⟨?_, en.2⟩
    have k4 : k = 4 := by
      rcases knd_or (kb := (prv L i).1) (pb := (prv L i).2) (s := (tk L i).2.1) (k := k) with y | y <;> omega
    rcases tc with ⟨_, _, h, _⟩ | ⟨_, _, h, _⟩ | ⟨_, _, h, _⟩ | ⟨_, _, _, h, _, _⟩
    · omega
    · omega
    · omega
    · exact h
theorem prv_tk {L : List Tok} (i : Nat) : prv L (i + 1) = ((tk L i).1, (tk L i).2.2.1) := rfl
theorem MAt.word {h : PH} {T : Int → Int} {n : Int} {L : List Tok} {i : Nat} (O : TxO T n) (LX : LexA T n L) (hi : i + 1 < L.length) (k : (tk L i).1 = 1 ∨ (tk L i).1 = 2 ∨ ((tk L i).1 = 3 ∧ ¬ isLet (T (tk L i).2.2.1))) (e0 : 0 ≤ (tk L i).2.2.1) (g2 : gv h 66 2 = (tk L i).2.2.1) (g4 : gv h 66 4 = (tk L i).2.2.1) : MAt h T n L (i + 1) := by
  have A := LX.tok O hi
  have A0 := A
  obtain ⟨a1, a2, a3⟩ := A
  rw [prv_tk] at a1
  have a11 : (tk L i).2.2.1 ≤ (tk L (i + 1)).2.1 := a1.1
  unfold MAt
  rw [prv_tk, g2, g4]
  refine ⟨hi, ⟨Int.le_refl _, e0, a11⟩, ⟨by omega, Int.le_refl _⟩, fun z => ?_⟩
  have z : isLet (T (tk L (i + 1)).2.1) ∨ (isDig (T (tk L (i + 1)).2.1) ∧ (tk L i).1 ≠ 3) := z
  rcases a3 with ⟨_, e⟩ | ⟨_, _, kk, c, e⟩
  · have y := O.2.2 n (by omega)
    rw [e, y] at z; omega
  · have e : (tk L (i + 1)).1 = knd (tk L i).1 (tk L i).2.2.1 (tk L (i + 1)).2.1 kk := e
    have kb := c.k
    rw [e, knd_5 (by omega)]
    unfold wdy
    rcases z with z | ⟨z, z3⟩
    · have k1 := (c.let z).1
      constructor
      · intro y
        refine ⟨by omega, ?_, y⟩
        rcases k with k | k | ⟨_, k⟩
        · exact Or.inl k
        · exact Or.inr k
        · rw [y] at k; exact absurd z k
      · rintro ⟨_, _, y⟩; exact y
    · have k1 := (c.dig z).1
      constructor
      · intro y; exact ⟨by omega, by omega, y⟩
      · rintro ⟨_, _, y⟩; exact y
theorem MAt.sign {h : PH} {T : Int → Int} {n : Int} {L : List Tok} {i : Nat} (O : TxO T n) (LX : LexA T n L) (hi : i + 1 < L.length) (k : (tk L i).1 = 4) (e0 : 0 ≤ (tk L i).2.1) (g2 : gv h 66 2 = (tk L i).2.1 + 1) (g4 : -1 ≤ gv h 66 4 ∧ gv h 66 4 ≤ (tk L i).2.1) : MAt h T n L (i + 1) := by
  have E := (LX.tok O (by omega : i < L.length)).sgE k
  have A := LX.tok O hi
  obtain ⟨a1, a2, a3⟩ := A
  rw [prv_tk] at a1
  have a11 : (tk L i).2.2.1 ≤ (tk L (i + 1)).2.1 := a1.1
  unfold MAt
  rw [prv_tk, g2]
  refine ⟨hi, ⟨by show (tk L i).2.2.1 ≤ _; omega, by omega, by omega⟩, ⟨by omega, by omega⟩, fun z => ?_⟩
  have z : isLet (T (tk L (i + 1)).2.1) ∨ (isDig (T (tk L (i + 1)).2.1) ∧ (tk L i).1 ≠ 3) := z
  rcases a3 with ⟨_, e⟩ | ⟨_, _, kk, c, e⟩
  · have y := O.2.2 n (by omega)
    rw [e, y] at z; omega
  · have e : (tk L (i + 1)).1 = knd (tk L i).1 (tk L i).2.2.1 (tk L (i + 1)).2.1 kk := e
    have kb := c.k
    rw [e, knd_5 (by omega)]
    unfold wdy
    constructor
    · intro y; omega
    · rintro ⟨_, y, _⟩; omega
def tkA (a i : Int) : Bool := decide (a = 66 ∧ (i = 2 ∨ i = 4))
theorem lukA_tkA : ∀ a i, tkA a i = false → lukA a i = false := fun a i => dw (by omega)
theorem m_takesW {d : Nat} {h : PH} {q : PQ} (S : Shape h) (a : Int) {T : Int → Int} {n : Int} {L : List Tok} {i : Nat} {l : Nat} {f : Nat → Int} (W : WdA h a l f) (a66 : a ≠ 66) (O : TxO T n) (X : TxM h T n) (LX : LexA T n L) (M : MAt h T n L i) (b0 : gv h 66 5 = 0)
    (K1 : ∀ h', (Keep tkA h h' ∧ isWd L i (wf f l) ∧ MAt h' T n L (i + 1)) → Shape h' → q (some (.inl 1)) h') (K2 : ∀ h', (Keep tkA h h' ∧ ¬ isWd L i (wf f l) ∧ MAt h' T n L i ∧ gv h' 66 2 = (tk L i).2.1) → Shape h' → q (some (.inl 0)) h') :
    Wp (d + 3) 0 0 M_X12_takes 0 [some (.inr (.inr 66)), some (.inr (.inr a))] [] h q := by
  have ta := W.1
  have la := W.2.1
  have l6 := W.2.2.1
  have n7 := O.1
  have B := LX.tl O
  have TA := LX.tok O M.1
  have J10 : ∀ (h1 : PH), Shape h1 → Keep lukA h h1 → isWd L i (wf f l) → (tk L i).2.2.1 = (tk L i).2.1 + l → gv h1 66 2 = (tk L i).2.1 → Wp (d + 3) 0 0 M_X12_takes 10 [some (.inr (.inr 66)), some (.inr (.inr a))] [] h1 q := by
    intro h1 S1 k1 w he g2
    have W1 := W.kp k1 (fun i => decide_eq_false (by omega))
    have ta := W1.1
    have la := W1.2.1
    have t2 := TA.2.1
    refine p_aload 11 rfl rfl rfl ?_
    refine p_dup 12 rfl rfl nl_r ?_
    refine p_getfi (j := 2) (z := (tk L i).2.1) 15 rfl rfl rfl (tg_66 S1) rfl g2 ?_
    refine p_aload 16 rfl rfl rfl ?_
    refine p_alen (w := (l : Int)) 17 rfl rfl (by rw [ta]; decide) la ?_
    refine p_iadd (z := ((tk L i).2.1) + (l : Int)) 18 rfl rfl (w32_id ⟨(by omega), (by omega)⟩) ?_
    refine p_putfi (j := 2) 21 rfl rfl rfl (fun z => absurd z (by decide)) (tg_66 S1) rfl ?_
    refine p_nmh (fun y1 e1 => ?_)
    have S1 : Shape y1 := by rw [e1]; exact S1.svF ff_66_2 _
    refine p_aload 22 rfl rfl rfl ?_
    refine p_aload 23 rfl rfl rfl ?_
    refine p_getfi (j := 2) (z := ((tk L i).2.1) + (l : Int)) 26 rfl rfl rfl (tg_66 S1) rfl (by rw [e1]; exact sv_eq _ _ _ _) ?_
    refine p_putfi (j := 4) 29 rfl rfl rfl (fun z => absurd z (by decide)) (tg_66 S1) rfl ?_
    refine p_nmh (fun y2 e2 => ?_)
    have S2 : Shape y2 := by rw [e2]; exact S1.svF ff_66_4 _
    refine p_const 30 rfl rfl ?_
    refine p_zret rfl rfl (by decide) ?_
    -- leaf 1: answer [.inl 1] h=y2 e2,e1
    refine K1 _ ⟨by rw [e2, e1]; exact ((k1.wide lukA_tkA).sv rfl _).sv rfl _, w, MAt.word O LX (B.nx M.1 (by rw [w.1]; decide)).1 (Or.inl w.1) (by omega) ?_ ?_⟩ S2
    · rw [e2, sv_nf (by decide), e1, sv_eq]; omega
    · rw [e2, sv_eq]; omega
  refine p_aload 1 rfl rfl rfl ?_
  refine p_aload 2 rfl rfl rfl ?_
  refine p_callv (le := [some (.inr (.inr 66)), some (.inr (.inr a)), none, none]) (as := [.inr (.inr 66), .inr (.inr a)]) (rest := []) 5 0 0 0 0 rfl rfl (Nat.le_of_ble_eq_true rfl) rfl (Nat.le_of_ble_eq_true rfl) rfl rfl (Nat.le_of_ble_eq_true rfl) rfl (Nat.le_of_ble_eq_true rfl) rfl (Nat.le_refl _) (Nat.le_refl _) rfl rfl (tg_66 S) ?_
  refine m_isHere S a W a66 O X LX M b0 (fun y1 p1 S1 => ?_) (fun y1 p1 S1 => ?_)
  · show Wp (d + 3) 0 0 M_X12_takes 5 [some (.inr (.inr 66)), some (.inr (.inr a))] [.inl 1] y1 _
    refine p_if_ne_t 10 rfl rfl (by decide) ?_
    -- leaf 1: loop 10 [some (.inr (.inr 66)), some (.inr (.inr a))] st=[] h=y1 
    exact J10 _ S1 p1.1 p1.2.1 p1.2.2.1 p1.2.2.2.2
  · show Wp (d + 3) 0 0 M_X12_takes 5 [some (.inr (.inr 66)), some (.inr (.inr a))] [.inl 0] y1 _
    refine p_if_ne_f 8 rfl rfl (by decide) ?_
    refine p_const 9 rfl rfl ?_
    refine p_zret rfl rfl (by decide) ?_
    -- leaf 2: answer [.inl 0] h=y1 
    exact K2 _ ⟨p1.1.wide lukA_tkA, p1.2.1, p1.2.2.1, p1.2.2.2⟩ S1
/-- a sign that is none of letters, figures and the full stop -/
def plainS (c : Int) : Prop := 0 ≤ c ∧ ¬ isLet c ∧ ¬ isDig c ∧ c ≠ 46
theorem m_takesSign {d : Nat} {h : PH} {q : PQ} (S : Shape h) (c : Int) {T : Int → Int} {n : Int} {L : List Tok} {i : Nat} (pc : plainS c) (O : TxO T n) (X : TxM h T n) (LX : LexA T n L) (M : MAt h T n L i) (b0 : gv h 66 5 = 0)
    (K1 : ∀ h', (Keep lukA h h' ∧ isSg L i c ∧ MAt h' T n L (i + 1)) → Shape h' → q (some (.inl 1)) h') (K2 : ∀ h', (Keep lukA h h' ∧ ¬ isSg L i c ∧ MAt h' T n L i ∧ gv h' 66 2 = (tk L i).2.1) → Shape h' → q (some (.inl 0)) h') :
    Wp (d + 2) 0 0 M_X12_takesSign 0 [some (.inr (.inr 66)), some (.inl c)] [] h q := by
  have n7 := O.1
  have B := LX.tl O
  have TA := LX.tok O M.1
  have sg := TA.sg O pc.1 pc.2.1 pc.2.2.1 pc.2.2.2
  have J17 : ∀ (h1 : PH), Shape h1 → Keep lukA h h1 → isSg L i c → MAt h1 T n L i → gv h1 66 2 = (tk L i).2.1 → Wp (d + 2) 0 0 M_X12_takesSign 17 [some (.inr (.inr 66)), some (.inl c)] [] h1 q := by
    intro h1 S1 k1 w M1 g2
    have t2 := TA.2.1
    have m4 := M1.2.2.1
    refine p_aload 18 rfl rfl rfl ?_
    refine p_dup 19 rfl rfl nl_r ?_
    refine p_getfi (j := 2) (z := (tk L i).2.1) 22 rfl rfl rfl (tg_66 S1) rfl g2 ?_
    refine p_const 23 rfl rfl ?_
    refine p_iadd (z := ((tk L i).2.1) + 1) 24 rfl rfl (w32_id ⟨(by omega), (by omega)⟩) ?_
    refine p_putfi (j := 2) 27 rfl rfl rfl (fun z => absurd z (by decide)) (tg_66 S1) rfl ?_
    refine p_nmh (fun y1 e1 => ?_)
    have S1 : Shape y1 := by rw [e1]; exact S1.svF ff_66_2 _
    refine p_const 28 rfl rfl ?_
    refine p_zret rfl rfl (by decide) ?_
    -- leaf 1: answer [.inl 1] h=y1 e1
    refine K1 _ ⟨by rw [e1]; exact k1.sv rfl _, w, MAt.sign O LX (B.nx M.1 (by rw [w.1]; decide)).1 w.1 t2.1 ?_ ?_⟩ S1
    · rw [e1, sv_eq]
    · rw [e1, sv_nf (by decide)]; omega
  refine p_aload 1 rfl rfl rfl ?_
  refine p_getfi (j := 5) (z := gv h 66 5) 4 rfl rfl rfl (tg_66 S) rfl rfl ?_
  refine p_if_ne_f 7 rfl rfl (by omega) ?_
  refine p_aload 8 rfl rfl rfl ?_
  refine p_callv (le := [some (.inr (.inr 66))]) (as := [.inr (.inr 66)]) (rest := []) 11 0 0 0 0 rfl rfl (Nat.le_of_ble_eq_true rfl) rfl (Nat.le_of_ble_eq_true rfl) rfl rfl (Nat.le_of_ble_eq_true rfl) rfl (Nat.le_of_ble_eq_true rfl) rfl (Nat.le_refl _) (Nat.le_refl _) rfl rfl (tg_66 S) ?_
  refine m_lookT S O X LX M (fun r1 y1 p1 S1 => ?_)
  show Wp (d + 2) 0 0 M_X12_takesSign 11 [some (.inr (.inr 66)), some (.inl c)] [.inl r1] y1 _
  obtain ⟨kl, re, M2, g2⟩ := p1
  refine p_iload 12 rfl rfl rfl ?_
  refine p_ic_eq 15 17 rfl rfl rfl (fun c2 => ?_) (fun c2 => ?_)
  · skip
    -- leaf 1: loop 17 [some (.inr (.inr 66)), some (.inl c)] st=[] h=y1 
    exact J17 _ S1 kl (sg.2 (by omega)) M2 g2
  · skip
    refine p_const 16 rfl rfl ?_
    refine p_zret rfl rfl (by decide) ?_
    -- leaf 2: answer [.inl 0] h=y1 
    exact K2 _ ⟨kl, fun w => by have := sg.1 w; omega, M2, g2⟩ S1

