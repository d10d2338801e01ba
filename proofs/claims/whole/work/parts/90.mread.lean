/-! THE MODEL'S READER: words and places -/
def wf (f : Nat → Int) : Nat → Int
  | 0 => 0
  | k + 1 => wf f k * 32 + (f k - 97 + 1)
theorem wf_wv (T : Int → Int) (p : Int) : ∀ k : Nat, wv T p k = wf (fun j => T (p + j)) k
  | 0 => rfl
  | k + 1 => by
    show wv T p k * 32 + (T (p + k) - 97 + 1) = wf (fun j => T (p + j)) k * 32 + (T (p + k) - 97 + 1)
    rw [wf_wv T p k]
theorem wf_pos {f : Nat → Int} : ∀ {k : Nat}, (∀ j, j < k → isLet (f j)) → 0 ≤ wf f k ∧ (0 < k → 0 < wf f k)
  | 0, _ => ⟨Int.le_refl 0, fun z => absurd z (by decide)⟩
  | k + 1, h => by
    have ih := (wf_pos (f := f) (k := k) (fun j hj => h j (by omega))).1
    have l := h k (by omega)
    show 0 ≤ wf f k * 32 + (f k - 97 + 1) ∧ (0 < k + 1 → 0 < wf f k * 32 + (f k - 97 + 1))
    omega
theorem wf_inj {f g : Nat → Int} : ∀ {k m : Nat}, (∀ j, j < k → isLet (f j)) → (∀ j, j < m → isLet (g j)) → wf f k = wf g m → k = m ∧ ∀ j, j < k → f j = g j
  | 0, 0, _, _, _ => ⟨rfl, fun j hj => by omega⟩
  | 0, m + 1, _, hg, e => by
    have z := (wf_pos hg).2 (by omega)
    have e : 0 = wf g (m + 1) := e
    omega
  | k + 1, 0, hf, _, e => by
    have z := (wf_pos hf).2 (by omega)
    have e : wf f (k + 1) = 0 := e
    omega
  | k + 1, m + 1, hf, hg, e => by
    have a := hf k (by omega)
    have b := hg m (by omega)
    have e : wf f k * 32 + (f k - 97 + 1) = wf g m * 32 + (g m - 97 + 1) := e
    obtain ⟨e1, e2⟩ := wf_inj (k := k) (m := m) (fun j hj => hf j (by omega)) (fun j hj => hg j (by omega)) (by omega)
    subst e1
    refine ⟨rfl, fun j hj => ?_⟩
    by_cases z : j = k
    · rw [z]; omega
    · exact e2 j (by omega)
theorem wf_congr {f g : Nat → Int} : ∀ {k : Nat}, (∀ j, j < k → f j = g j) → wf f k = wf g k
  | 0, _ => rfl
  | k + 1, h => by
    show wf f k * 32 + (f k - 97 + 1) = wf g k * 32 + (g k - 97 + 1)
    rw [wf_congr (fun j hj => h j (by omega)), h k (by omega)]
/-- token i, of the whole text -/
def TokA (T : Int → Int) (n : Int) (L : List Tok) (i : Nat) : Prop := nxt T (prv L i).2 (tk L i).2.1 ∧ (0 ≤ (tk L i).2.1 ∧ (tk L i).2.1 ≤ n) ∧ (((tk L i).1 = 0 ∧ (tk L i).2.1 = n) ∨ ((tk L i).2.1 < n ∧ ((tk L i).2.1 < (tk L i).2.2.1 ∧ (tk L i).2.2.1 ≤ n) ∧ ∃ k, TokC T (tk L i).2.1 k (tk L i).2.2.1 (tk L i).2.2.2 ∧ (tk L i).1 = knd (prv L i).1 (prv L i).2 (tk L i).2.1 k))
theorem knd_or {kb pb s k : Int} : knd kb pb s k = k ∨ knd kb pb s k = 5 := by unfold knd; split <;> first | exact Or.inl rfl | exact Or.inr rfl
theorem TokC.let {T : Int → Int} {s k e v : Int} (c : TokC T s k e v) (l : isLet (T s)) : k = 1 ∧ ends isLet T s e ∧ v = wq T s e := by
  rcases c with ⟨_, h, a, b⟩ | ⟨h, _⟩ | ⟨h, _⟩ | ⟨h, _⟩
  · exact ⟨a, h, b⟩
  · omega
  · omega
  · exact absurd l h
theorem TokC.wd {T : Int → Int} {s k e v : Int} (c : TokC T s k e v) (z : k = 1) : isLet (T s) := by
  rcases c with ⟨h, _⟩ | ⟨_, _, h, _⟩ | ⟨_, _, h, _⟩ | ⟨_, _, _, _, h, _⟩
  · exact h
  · omega
  · omega
  · omega
theorem TokA.let {T : Int → Int} {n : Int} {L : List Tok} {i : Nat} (O : TxO T n) (A : TokA T n L i) (l : isLet (T (tk L i).2.1)) : ((tk L i).1 = 1 ∨ (tk L i).1 = 5) ∧ ends isLet T (tk L i).2.1 (tk L i).2.2.1 ∧ (tk L i).2.2.2 = wq T (tk L i).2.1 (tk L i).2.2.1 ∧ (tk L i).2.2.1 ≤ n := by
  obtain ⟨_, _, ⟨_, e⟩ | ⟨_, en, k, c, e⟩⟩ := A
  · have z := O.2.2 n (by omega)
    rw [e, z] at l; omega
  · obtain ⟨a, b, v⟩ := c.let l
    rw [a] at e
    refine ⟨?_, b, v, en.2⟩
    rw [e]; exact knd_or
theorem TokA.wd {T : Int → Int} {n : Int} {L : List Tok} {i : Nat} (A : TokA T n L i) (z : (tk L i).1 = 1) : isLet (T (tk L i).2.1) := by
  obtain ⟨_, _, ⟨e, _⟩ | ⟨_, en, k, c, e⟩⟩ := A
  · omega
  · refine c.wd ?_
    rcases knd_or (kb := (prv L i).1) (pb := (prv L i).2) (s := (tk L i).2.1) (k := k) with y | y <;> omega
theorem LexA.tok {T : Int → Int} {n : Int} {L : List Tok} (O : TxO T n) (X : LexA T n L) {i : Nat} (h : i < L.length) : TokA T n L i := by
  obtain ⟨D, e, P, _, pn, bl⟩ := X
  have z := tk_get h
  unfold TokA
  generalize ht : tk L i = t at z
  rw [e] at z
  rcases snoc_getT z with ⟨j1, j2⟩ | ⟨j1, j2⟩
  · have r := P i t j2
    have pe : prv L i = prv D i := by rw [e]; exact prv_snoc D _ (by omega)
    rw [pe]
    obtain ⟨r1, r2, r3, r4⟩ := r
    exact ⟨r1, ⟨r2.1, by omega⟩, Or.inr ⟨r2.2, r3, r4⟩⟩
  · have pe : prv L i = prv D D.length := by rw [j1, e]; exact prv_snoc D _ (Nat.le_refl _)
    have n0 := O.1
    rw [pe, j2]
    refine ⟨⟨pn, bl, ?_⟩, ⟨n0.1, Int.le_refl n⟩, Or.inl ⟨rfl, rfl⟩⟩
    show ¬ isBl (T n)
    rw [O.2.2 n (by omega)]; decide
/-- the model stands at token i -/
def MAt (h : PH) (T : Int → Int) (n : Int) (L : List Tok) (i : Nat) : Prop := i < L.length ∧ ((prv L i).2 ≤ gv h 66 2 ∧ 0 ≤ gv h 66 2 ∧ gv h 66 2 ≤ (tk L i).2.1) ∧ (-1 ≤ gv h 66 4 ∧ gv h 66 4 ≤ gv h 66 2) ∧ ((isLet (T (tk L i).2.1) ∨ (isDig (T (tk L i).2.1) ∧ (prv L i).1 ≠ 3)) → (gv h 66 4 = (tk L i).2.1 ↔ (tk L i).1 = 5))
theorem m_lookT {d : Nat} {h : PH} {q : PQ} (S : Shape h) {T : Int → Int} {n : Int} {L : List Tok} {i : Nat} (O : TxO T n) (X : TxM h T n) (LX : LexA T n L) (M : MAt h T n L i)
    (K : ∀ r h', (Keep lukA h h' ∧ r = T (tk L i).2.1 ∧ MAt h' T n L i ∧ gv h' 66 2 = (tk L i).2.1) → Shape h' → q (some (.inl r)) h') : Wp (d + 1) 0 0 M_X12_look 0 [some (.inr (.inr 66))] [] h q := by
  obtain ⟨m0, ⟨m1, m2, m3⟩, ⟨m4, m5⟩, m6⟩ := M
  obtain ⟨t1, t2, t3⟩ := LX.tok O m0
  refine m_look S O X rfl m2 (by omega) (fun r h' p S' => ?_)
  obtain ⟨kl, e, hx, en, ge, re⟩ := p
  have ee : e = (tk L i).2.1 := hx.same ⟨m3, fun j j0 j1 => t1.2.1 j (by omega) j1, t1.2.2⟩
  rw [ee] at ge re
  have e4 : gv h' 66 4 = gv h 66 4 := kl.1 66 4 rfl
  refine K r h' ⟨kl, re, ⟨m0, ⟨by have := t1.1; omega, by omega, by omega⟩, ⟨by omega, by omega⟩, ?_⟩, ge⟩ S'
  rw [e4]; exact m6
/-- the letters of a word of the model -/
def WdA (h : PH) (a : Int) (l : Nat) (f : Nat → Int) : Prop := tg h a = 104 ∧ ln h a = l ∧ (1 ≤ l ∧ l ≤ 6) ∧ ∀ j : Nat, j < l → gv h a j = f j ∧ isLet (f j)
theorem WdA.kp {h h' : PH} {a : Int} {l : Nat} {f : Nat → Int} {A : Int → Int → Bool} (W : WdA h a l f) (k : Keep A h h') (hA : ∀ i, A a i = false) : WdA h' a l f := ⟨(k.2.2.1 a).trans W.1, (k.2.2.2 a).trans W.2.1, W.2.2.1, fun j hj => ⟨(k.1 a j (hA j)).trans (W.2.2.2 j hj).1, (W.2.2.2 j hj).2⟩⟩
theorem m_isHere {d : Nat} {h : PH} {q : PQ} (S : Shape h) (a : Int) {T : Int → Int} {n : Int} {L : List Tok} {i : Nat} {l : Nat} {f : Nat → Int} (W : WdA h a l f) (a66 : a ≠ 66) (O : TxO T n) (X : TxM h T n) (LX : LexA T n L) (M : MAt h T n L i) (b0 : gv h 66 5 = 0)
    (K1 : ∀ h', (Keep lukA h h' ∧ isWd L i (wf f l) ∧ (tk L i).2.2.1 = (tk L i).2.1 + l ∧ MAt h' T n L i ∧ gv h' 66 2 = (tk L i).2.1) → Shape h' → q (some (.inl 1)) h') (K2 : ∀ h', (Keep lukA h h' ∧ ¬ isWd L i (wf f l) ∧ MAt h' T n L i ∧ gv h' 66 2 = (tk L i).2.1) → Shape h' → q (some (.inl 0)) h') :
    Wp (d + 2) 0 0 M_X12_isHere 0 [some (.inr (.inr 66)), some (.inr (.inr a)), none, none] [] h q := by
  have n7 := O.1
  have TA := LX.tok O M.1
  have TA0 := TA
  obtain ⟨t1, t2, t3⟩ := TA
  have J76 : ∀ (c m : Nat) (h1 : PH), isLet (T (tk L i).2.1) → (tk L i).1 = 1 → m + c = l → (tk L i).2.2.1 = (tk L i).2.1 + l → (tk L i).2.2.1 ≤ n → (tk L i).2.2.2 = wv T (tk L i).2.1 l → ends isLet T (tk L i).2.1 (tk L i).2.2.1 → Shape h1 → Keep lukA h h1 → MAt h1 T n L i → gv h1 66 2 = (tk L i).2.1 → (∀ j : Nat, j < m → T ((tk L i).2.1 + j) = f j) →
      Wp (d + 2) 0 0 M_X12_isHere 76 [some (.inr (.inr 66)), some (.inr (.inr a)), some (.inl ((tk L i).2.2.1)), some (.inl m)] [] h1 q := by
    intro c
    induction c with
    | zero =>
      intro m h1 tl tk1 hm he en hv hend S1 k1 M1 g2 al
      have W1 := W.kp k1 (fun i => decide_eq_false (by omega))
      have ta := W1.1
      have la := W1.2.1
      have em : m = l := by omega
      subst em
      refine p_iload 77 rfl rfl rfl ?_
      refine p_aload 78 rfl rfl rfl ?_
      refine p_alen (w := (m : Int)) 79 rfl rfl (by rw [ta]; decide) la ?_
      refine p_ic_ge_t 107 rfl rfl (by omega) ?_
      refine p_const 108 rfl rfl ?_
      refine p_zret rfl rfl (by decide) ?_
      -- leaf 1: answer [.inl 1] h=h1 
      exact K1 h1 ⟨k1, ⟨tk1, by rw [hv, wf_wv]; exact wf_congr al⟩, he, M1, g2⟩ S1
    | succ c ih =>
      intro m h1 tl tk1 hm he en hv hend S1 k1 M1 g2 al
      have W1 := W.kp k1 (fun i => decide_eq_false (by omega))
      have ta := W1.1
      have la := W1.2.1
      have hT : gv h1 67 ((tk L i).2.1 + (m : Int)) = T ((tk L i).2.1 + m) := (k1.1 67 _ rfl).trans (X.2 _ (by omega) (by omega))
      have hf := (W1.2.2.2 m (by omega)).1
      refine p_iload 77 rfl rfl rfl ?_
      refine p_aload 78 rfl rfl rfl ?_
      refine p_alen (w := (l : Int)) 79 rfl rfl (by rw [ta]; decide) la ?_
      refine p_ic_ge_f 82 rfl rfl (by omega) ?_
      refine p_aload 83 rfl rfl rfl ?_
      refine p_getfr (j := 0) (z := 67) 86 rfl rfl rfl (tg_66 S1) rfl (fi_66_0 S1) ?_
      refine p_aload 87 rfl rfl rfl ?_
      refine p_getfi (j := 2) (z := (tk L i).2.1) 90 rfl rfl rfl (tg_66 S1) rfl g2 ?_
      refine p_iload 91 rfl rfl rfl ?_
      refine p_iadd (z := ((tk L i).2.1) + (m : Int)) 92 rfl rfl (w32_id ⟨(by omega), (by omega)⟩) ?_
      refine p_iald (w := 700) (z := gv h1 67 (((tk L i).2.1) + (m : Int))) 93 rfl rfl (tg_67 S1) (ln_67 S1) (by omega) (by omega) rfl ?_
      refine p_aload 94 rfl rfl rfl ?_
      refine p_iload 95 rfl rfl rfl ?_
      refine p_cald (w := (l : Int)) (z := gv h1 a (m : Int)) 96 rfl rfl ta la (by omega) (by omega) rfl ?_
      refine p_ic_eq 99 101 rfl rfl rfl (fun c1 => ?_) (fun c1 => ?_)
      · skip
        refine p_iinc (y := (m : Int) + 1) (ls' := [some (.inr (.inr 66)), some (.inr (.inr a)), some (.inl ((tk L i).2.2.1)), some (.inl ((m : Int) + 1))]) 104 rfl rfl rfl (w32_id ⟨(by omega), (by omega)⟩) rfl ?_
        refine p_goto 76 rfl rfl ?_
        -- leaf 1: loop 76 [some (.inr (.inr 66)), some (.inr (.inr a)), some (.inl ((tk L i).2.2.1)), some (.inl ((m : Int) + 1))] st=[] h=h1 
        refine ih (m + 1) h1 tl tk1 (by omega) he en hv hend S1 k1 M1 g2 (fun j hj => ?_)
        by_cases z : j = m
        · rw [z, ← hT, ← hf]; assumption
        · exact al j (by omega)
      · skip
        refine p_const 100 rfl rfl ?_
        refine p_zret rfl rfl (by decide) ?_
        -- leaf 2: answer [.inl 0] h=h1 
        refine K2 h1 ⟨k1, fun w => ?_, M1, g2⟩ S1
        have z := (wf_inj (f := fun j => T ((tk L i).2.1 + j)) (g := f) (k := l) (m := l) (fun j hj => hend.2.1 _ (by omega) (by omega)) (fun j hj => (W.2.2.2 j hj).2) (by rw [← wf_wv, ← hv]; exact w.2)).2 m (by omega)
        have z : T ((tk L i).2.1 + m) = f m := z
        omega
  have J61 : ∀ (h1 : PH), isLet (T (tk L i).2.1) → (tk L i).1 = 1 → (tk L i).2.2.1 ≤ n → (tk L i).2.2.2 = wq T (tk L i).2.1 (tk L i).2.2.1 → ends isLet T (tk L i).2.1 (tk L i).2.2.1 → Shape h1 → Keep lukA h h1 → MAt h1 T n L i → gv h1 66 2 = (tk L i).2.1 →
      Wp (d + 2) 0 0 M_X12_isHere 61 [some (.inr (.inr 66)), some (.inr (.inr a)), some (.inl ((tk L i).2.2.1)), none] [] h1 q := by
    intro h1 tl tk1 en hv hend S1 k1 M1 g2
    have W1 := W.kp k1 (fun i => decide_eq_false (by omega))
    have ta := W1.1
    have la := W1.2.1
    have l16 := W.2.2.1
    have e1 := hend.1
    have wvi := wf_inj (f := fun j => T ((tk L i).2.1 + j)) (g := f) (k := ((tk L i).2.2.1 - (tk L i).2.1).toNat) (m := l) (fun j hj => hend.2.1 _ (by omega) (by omega)) (fun j hj => (W.2.2.2 j hj).2)
    have wp := (wf_pos (f := f) (k := l) (fun j hj => (W.2.2.2 j hj).2)).2 (by omega)
    refine p_iload 62 rfl rfl rfl ?_
    refine p_aload 63 rfl rfl rfl ?_
    refine p_getfi (j := 2) (z := (tk L i).2.1) 66 rfl rfl rfl (tg_66 S1) rfl g2 ?_
    refine p_isub (z := ((tk L i).2.2.1) - ((tk L i).2.1)) 67 rfl rfl (w32_id ⟨(by omega), (by omega)⟩) ?_
    refine p_aload 68 rfl rfl rfl ?_
    refine p_alen (w := (l : Int)) 69 rfl rfl (by rw [ta]; decide) la ?_
    refine p_ic_eq 72 74 rfl rfl rfl (fun c1 => ?_) (fun c1 => ?_)
    · skip
      refine p_const 75 rfl rfl ?_
      refine p_istore (ls' := [some (.inr (.inr 66)), some (.inr (.inr a)), some (.inl ((tk L i).2.2.1)), some (.inl 0)]) 76 rfl rfl (Nat.le_of_ble_eq_true rfl) rfl ?_
      -- leaf 1: loop 76 [some (.inr (.inr 66)), some (.inr (.inr a)), some (.inl ((tk L i).2.2.1)), some (.inl 0)] st=[] h=h1 
      refine J76 l 0 h1 tl tk1 (by omega) (by omega) en ?_ hend S1 k1 M1 g2 (fun j hj => by omega)
      rw [hv]
      unfold wq
      rw [if_pos (by omega), show ((tk L i).2.2.1 - (tk L i).2.1).toNat = l by omega]
    · skip
      refine p_const 73 rfl rfl ?_
      refine p_zret rfl rfl (by decide) ?_
      -- leaf 2: answer [.inl 0] h=h1 
      refine K2 h1 ⟨k1, fun w => ?_, M1, g2⟩ S1
      have w2 := w.2
      rw [hv] at w2
      unfold wq at w2
      by_cases z : (tk L i).2.2.1 - (tk L i).2.1 ≤ 6
      · rw [if_pos z, wf_wv] at w2
        have := (wvi w2).1
        omega
      · rw [if_neg z] at w2; omega
  have J35 : ∀ (c : Nat) (x : Int) (h1 : PH), x + c = (tk L i).2.2.1 → (tk L i).2.1 ≤ x → isLet (T (tk L i).2.1) → (tk L i).1 = 1 → (tk L i).2.2.1 ≤ n → (tk L i).2.2.2 = wq T (tk L i).2.1 (tk L i).2.2.1 → ends isLet T (tk L i).2.1 (tk L i).2.2.1 → Shape h1 → Keep lukA h h1 → MAt h1 T n L i → gv h1 66 2 = (tk L i).2.1 →
      Wp (d + 2) 0 0 M_X12_isHere 35 [some (.inr (.inr 66)), some (.inr (.inr a)), some (.inl x), none] [] h1 q := by
    intro c
    induction c with
    | zero =>
      intro x h1 hx sx tl tk1 en hv hend S1 k1 M1 g2
      have hn : gv h1 66 3 = n := (k1.1 66 3 rfl).trans X.1
      have ex : x = (tk L i).2.2.1 := by omega
      subst ex
      have nl := hend.2.2
      have j61 := J61 h1 tl tk1 en hv hend S1 k1 M1 g2
      by_cases z : (tk L i).2.2.1 < n
      · have hT : gv h1 67 (tk L i).2.2.1 = T (tk L i).2.2.1 := (k1.1 67 _ rfl).trans (X.2 _ (by omega) z)
        refine p_iload 36 rfl rfl rfl ?_
        refine p_aload 37 rfl rfl rfl ?_
        refine p_getfi (j := 3) (z := n) 40 rfl rfl rfl (tg_66 S1) rfl hn ?_
        refine p_ic_ge_f 43 rfl rfl (by omega) ?_
        refine p_aload 44 rfl rfl rfl ?_
        refine p_getfr (j := 0) (z := 67) 47 rfl rfl rfl (tg_66 S1) rfl (fi_66_0 S1) ?_
        refine p_iload 48 rfl rfl rfl ?_
        refine p_iald (w := 700) (z := gv h1 67 ((tk L i).2.2.1)) 49 rfl rfl (tg_67 S1) (ln_67 S1) (by omega) (by omega) rfl ?_
        refine p_calls (le := [some (.inl (gv h1 67 ((tk L i).2.2.1)))]) (as := [.inl (gv h1 67 ((tk L i).2.2.1))]) (rest := []) 52 0 0 0 0 rfl rfl (Nat.le_of_ble_eq_true rfl) rfl (Nat.le_of_ble_eq_true rfl) rfl rfl (Nat.le_of_ble_eq_true rfl) rfl (Nat.le_of_ble_eq_true rfl) rfl (Nat.le_refl _) (Nat.le_refl _) rfl rfl ?_
        refine p_iload 1 rfl rfl rfl ?_
        refine p_const 3 rfl rfl ?_
        refine p_ic_lt 6 16 rfl rfl rfl (fun c1 => ?_) (fun c1 => ?_)
        · skip
          refine p_const 17 rfl rfl ?_
          refine p_zret rfl rfl (by decide) ?_
          show Wp (d + 2) 0 0 M_X12_isHere 52 [some (.inr (.inr 66)), some (.inr (.inr a)), some (.inl ((tk L i).2.2.1)), none] [.inl 0] h1 _
          refine p_if_eq_t 61 rfl rfl (by decide) ?_
          -- leaf 1: loop 61 [some (.inr (.inr 66)), some (.inr (.inr a)), some (.inl ((tk L i).2.2.1)), none] st=[] h=h1 
          first | exact j61 | (exfalso; exact nl ⟨by omega, by omega⟩)
        · skip
          refine p_iload 7 rfl rfl rfl ?_
          refine p_const 9 rfl rfl ?_
          refine p_ic_gt 12 16 rfl rfl rfl (fun c2 => ?_) (fun c2 => ?_)
          · skip
            refine p_const 17 rfl rfl ?_
            refine p_zret rfl rfl (by decide) ?_
            show Wp (d + 2) 0 0 M_X12_isHere 52 [some (.inr (.inr 66)), some (.inr (.inr a)), some (.inl ((tk L i).2.2.1)), none] [.inl 0] h1 _
            refine p_if_eq_t 61 rfl rfl (by decide) ?_
            -- leaf 2: loop 61 [some (.inr (.inr 66)), some (.inr (.inr a)), some (.inl ((tk L i).2.2.1)), none] st=[] h=h1 
            first | exact j61 | (exfalso; exact nl ⟨by omega, by omega⟩)
          · skip
            refine p_const 13 rfl rfl ?_
            refine p_goto 17 rfl rfl ?_
            refine p_zret rfl rfl (by decide) ?_
            show Wp (d + 2) 0 0 M_X12_isHere 52 [some (.inr (.inr 66)), some (.inr (.inr a)), some (.inl ((tk L i).2.2.1)), none] [.inl 1] h1 _
            refine p_if_eq_f 55 rfl rfl (by decide) ?_
            refine p_iinc (y := ((tk L i).2.2.1) + 1) (ls' := [some (.inr (.inr 66)), some (.inr (.inr a)), some (.inl (((tk L i).2.2.1) + 1)), none]) 58 rfl rfl rfl (w32_id ⟨(by omega), (by omega)⟩) rfl ?_
            refine p_goto 35 rfl rfl ?_
            -- leaf 3: loop 35 [some (.inr (.inr 66)), some (.inr (.inr a)), some (.inl (((tk L i).2.2.1) + 1)), none] st=[] h=h1 
            first | exact j61 | (exfalso; exact nl ⟨by omega, by omega⟩)
      · skip
        refine p_iload 36 rfl rfl rfl ?_
        refine p_aload 37 rfl rfl rfl ?_
        refine p_getfi (j := 3) (z := n) 40 rfl rfl rfl (tg_66 S1) rfl hn ?_
        refine p_ic_ge_t 61 rfl rfl (by omega) ?_
        -- leaf 1: loop 61 [some (.inr (.inr 66)), some (.inr (.inr a)), some (.inl ((tk L i).2.2.1)), none] st=[] h=h1 
        exact j61
    | succ c ih =>
      intro x h1 hx sx tl tk1 en hv hend S1 k1 M1 g2
      have hn : gv h1 66 3 = n := (k1.1 66 3 rfl).trans X.1
      have hT : gv h1 67 x = T x := (k1.1 67 _ rfl).trans (X.2 _ (by omega) (by omega))
      have hl := hend.2.1 x sx (by omega)
      refine p_iload 36 rfl rfl rfl ?_
      refine p_aload 37 rfl rfl rfl ?_
      refine p_getfi (j := 3) (z := n) 40 rfl rfl rfl (tg_66 S1) rfl hn ?_
      refine p_ic_ge_f 43 rfl rfl (by omega) ?_
      refine p_aload 44 rfl rfl rfl ?_
      refine p_getfr (j := 0) (z := 67) 47 rfl rfl rfl (tg_66 S1) rfl (fi_66_0 S1) ?_
      refine p_iload 48 rfl rfl rfl ?_
      refine p_iald (w := 700) (z := gv h1 67 x) 49 rfl rfl (tg_67 S1) (ln_67 S1) (by omega) (by omega) rfl ?_
      refine p_calls (le := [some (.inl (gv h1 67 x))]) (as := [.inl (gv h1 67 x)]) (rest := []) 52 0 0 0 0 rfl rfl (Nat.le_of_ble_eq_true rfl) rfl (Nat.le_of_ble_eq_true rfl) rfl rfl (Nat.le_of_ble_eq_true rfl) rfl (Nat.le_of_ble_eq_true rfl) rfl (Nat.le_refl _) (Nat.le_refl _) rfl rfl ?_
      refine p_iload 1 rfl rfl rfl ?_
      refine p_const 3 rfl rfl ?_
      refine p_ic_lt 6 16 rfl rfl rfl (fun c1 => ?_) (fun c1 => ?_)
      · skip
        refine p_const 17 rfl rfl ?_
        refine p_zret rfl rfl (by decide) ?_
        show Wp (d + 2) 0 0 M_X12_isHere 52 [some (.inr (.inr 66)), some (.inr (.inr a)), some (.inl x), none] [.inl 0] h1 _
        refine p_if_eq_t 61 rfl rfl (by decide) ?_
        -- leaf 1: loop 61 [some (.inr (.inr 66)), some (.inr (.inr a)), some (.inl x), none] st=[] h=h1 
        first | (exfalso; omega) | exact ih (x + 1) h1 (by omega) (by omega) tl tk1 en hv hend S1 k1 M1 g2
      · skip
        refine p_iload 7 rfl rfl rfl ?_
        refine p_const 9 rfl rfl ?_
        refine p_ic_gt 12 16 rfl rfl rfl (fun c2 => ?_) (fun c2 => ?_)
        · skip
          refine p_const 17 rfl rfl ?_
          refine p_zret rfl rfl (by decide) ?_
          show Wp (d + 2) 0 0 M_X12_isHere 52 [some (.inr (.inr 66)), some (.inr (.inr a)), some (.inl x), none] [.inl 0] h1 _
          refine p_if_eq_t 61 rfl rfl (by decide) ?_
          -- leaf 2: loop 61 [some (.inr (.inr 66)), some (.inr (.inr a)), some (.inl x), none] st=[] h=h1 
          first | (exfalso; omega) | exact ih (x + 1) h1 (by omega) (by omega) tl tk1 en hv hend S1 k1 M1 g2
        · skip
          refine p_const 13 rfl rfl ?_
          refine p_goto 17 rfl rfl ?_
          refine p_zret rfl rfl (by decide) ?_
          show Wp (d + 2) 0 0 M_X12_isHere 52 [some (.inr (.inr 66)), some (.inr (.inr a)), some (.inl x), none] [.inl 1] h1 _
          refine p_if_eq_f 55 rfl rfl (by decide) ?_
          refine p_iinc (y := x + 1) (ls' := [some (.inr (.inr 66)), some (.inr (.inr a)), some (.inl (x + 1)), none]) 58 rfl rfl rfl (w32_id ⟨(by omega), (by omega)⟩) rfl ?_
          refine p_goto 35 rfl rfl ?_
          -- leaf 3: loop 35 [some (.inr (.inr 66)), some (.inr (.inr a)), some (.inl (x + 1)), none] st=[] h=h1 
          first | (exfalso; omega) | exact ih (x + 1) h1 (by omega) (by omega) tl tk1 en hv hend S1 k1 M1 g2
  refine p_aload 1 rfl rfl rfl ?_
  refine p_getfi (j := 5) (z := gv h 66 5) 4 rfl rfl rfl (tg_66 S) rfl rfl ?_
  refine p_if_ne_f 7 rfl rfl (by omega) ?_
  refine p_aload 8 rfl rfl rfl ?_
  refine p_callv (le := [some (.inr (.inr 66))]) (as := [.inr (.inr 66)]) (rest := []) 11 0 0 0 0 rfl rfl (Nat.le_of_ble_eq_true rfl) rfl (Nat.le_of_ble_eq_true rfl) rfl rfl (Nat.le_of_ble_eq_true rfl) rfl (Nat.le_of_ble_eq_true rfl) rfl (Nat.le_refl _) (Nat.le_refl _) rfl rfl (tg_66 S) ?_
  refine m_lookT S O X LX M (fun r1 y1 p1 S1 => ?_)
  show Wp (d + 2) 0 0 M_X12_isHere 11 [some (.inr (.inr 66)), some (.inr (.inr a)), none, none] [.inl r1] y1 _
  obtain ⟨kl, re, M2, g2⟩ := p1
  refine p_calls (le := [some (.inl r1)]) (as := [.inl r1]) (rest := []) 14 0 0 0 0 rfl rfl (Nat.le_of_ble_eq_true rfl) rfl (Nat.le_of_ble_eq_true rfl) rfl rfl (Nat.le_of_ble_eq_true rfl) rfl (Nat.le_of_ble_eq_true rfl) rfl (Nat.le_refl _) (Nat.le_refl _) rfl rfl ?_
  refine p_iload 1 rfl rfl rfl ?_
  refine p_const 3 rfl rfl ?_
  refine p_ic_lt 6 16 rfl rfl rfl (fun c2 => ?_) (fun c2 => ?_)
  · skip
    refine p_const 17 rfl rfl ?_
    refine p_zret rfl rfl (by decide) ?_
    show Wp (d + 2) 0 0 M_X12_isHere 14 [some (.inr (.inr 66)), some (.inr (.inr a)), none, none] [.inl 0] y1 _
    refine p_if_eq_t 28 rfl rfl (by decide) ?_
    refine p_const 29 rfl rfl ?_
    refine p_zret rfl rfl (by decide) ?_
    -- leaf 1: answer [.inl 0] h=y1 
    exact K2 _ ⟨kl, fun w => by have := TA0.wd w.1; omega, M2, g2⟩ S1
  · skip
    refine p_iload 7 rfl rfl rfl ?_
    refine p_const 9 rfl rfl ?_
    refine p_ic_gt 12 16 rfl rfl rfl (fun c3 => ?_) (fun c3 => ?_)
    · skip
      refine p_const 17 rfl rfl ?_
      refine p_zret rfl rfl (by decide) ?_
      show Wp (d + 2) 0 0 M_X12_isHere 14 [some (.inr (.inr 66)), some (.inr (.inr a)), none, none] [.inl 0] y1 _
      refine p_if_eq_t 28 rfl rfl (by decide) ?_
      refine p_const 29 rfl rfl ?_
      refine p_zret rfl rfl (by decide) ?_
      -- leaf 2: answer [.inl 0] h=y1 
      exact K2 _ ⟨kl, fun w => by have := TA0.wd w.1; omega, M2, g2⟩ S1
    · skip
      refine p_const 13 rfl rfl ?_
      refine p_goto 17 rfl rfl ?_
      refine p_zret rfl rfl (by decide) ?_
      show Wp (d + 2) 0 0 M_X12_isHere 14 [some (.inr (.inr 66)), some (.inr (.inr a)), none, none] [.inl 1] y1 _
      refine p_if_eq_f 17 rfl rfl (by decide) ?_
      refine p_aload 18 rfl rfl rfl ?_
      refine p_getfi (j := 2) (z := gv y1 66 2) 21 rfl rfl rfl (tg_66 S1) rfl rfl ?_
      refine p_aload 22 rfl rfl rfl ?_
      refine p_getfi (j := 4) (z := gv y1 66 4) 25 rfl rfl rfl (tg_66 S1) rfl rfl ?_
      refine p_ic_ne 28 30 rfl rfl rfl (fun c4 => ?_) (fun c4 => ?_)
      · skip
        refine p_aload 31 rfl rfl rfl ?_
        refine p_getfi (j := 2) (z := gv y1 66 2) 34 rfl rfl rfl (tg_66 S1) rfl rfl ?_
        refine p_istore (ls' := [some (.inr (.inr 66)), some (.inr (.inr a)), some (.inl (gv y1 66 2)), none]) 35 rfl rfl (Nat.le_of_ble_eq_true rfl) rfl ?_
        -- leaf 3: loop 35 [some (.inr (.inr 66)), some (.inr (.inr a)), some (.inl (gv y1 66 2)), none] st=[] h=y1 
        have lt : isLet (T (tk L i).2.1) := ⟨by omega, by omega⟩
        obtain ⟨k15, hend, hv, en⟩ := TA0.let O lt
        have rt := M2.2.2.2 (Or.inl lt)
        have k1 : (tk L i).1 = 1 := by
          rcases k15 with z | z
          · exact z
          · exact absurd (rt.2 z) (by omega)
        rw [g2]
        exact J35 ((tk L i).2.2.1 - (tk L i).2.1).toNat _ _ (by have := hend.1; omega) (Int.le_refl _) lt k1 en hv hend S1 kl M2 g2
      · skip
        refine p_const 29 rfl rfl ?_
        refine p_zret rfl rfl (by decide) ?_
        -- leaf 4: answer [.inl 0] h=y1 
        have lt : isLet (T (tk L i).2.1) := ⟨by omega, by omega⟩
        have rt := M2.2.2.2 (Or.inl lt)
        exact K2 _ ⟨kl, fun w => by have := rt.1 (by omega); have := w.1; omega, M2, g2⟩ S1

