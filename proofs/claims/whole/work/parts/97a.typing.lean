/-! THE CODES of a test leave one truth, and never more than 63 figures -/
def tyL : List Int → List Bool → Option (List Bool)
  | [], ts => some ts
  | c :: l, ts => match tyc c ts with
    | some ts' => if ts'.length ≤ 63 then tyL l ts' else none
    | none => none
theorem tyL_app : ∀ {a b : List Int} {ts us : List Bool}, tyL a ts = some us → tyL (a ++ b) ts = tyL b us
  | [], b, ts, us, h => by
    have h : some ts = some us := h
    cases h; rfl
  | c :: a, b, ts, us, h => by
    have h : (match tyc c ts with | some ts' => if ts'.length ≤ 63 then tyL a ts' else none | none => none) = some us := h
    show (match tyc c ts with | some ts' => if ts'.length ≤ 63 then tyL (a ++ b) ts' else none | none => none) = tyL b us
    cases hc : tyc c ts with
    | none => rw [hc] at h; cases h
    | some ts' =>
      rw [hc] at h
      have h : (if ts'.length ≤ 63 then tyL a ts' else none) = some us := h
      show (if ts'.length ≤ 63 then tyL (a ++ b) ts' else none) = tyL b us
      by_cases z : ts'.length ≤ 63
      · rw [if_pos z] at h ⊢; exact tyL_app h
      · rw [if_neg z] at h; cases h
theorem tyL_one {c : Int} {ts us : List Bool} (h : tyc c ts = some us) (l : us.length ≤ 63) : tyL [c] ts = some us := by
  show (match tyc c ts with | some ts' => if ts'.length ≤ 63 then tyL [] ts' else none | none => none) = some us
  rw [h]
  show (if us.length ≤ 63 then tyL [] us else none) = some us
  rw [if_pos l]; rfl
theorem tyr_L (f : Int → Int) : ∀ (l : List Int) (p : Int) (ts : List Bool), (∀ (j : Nat) x, l[j]? = some x → f (p + j) = x) → tyr f l.length p ts = tyL l ts
  | [], _, _, _ => rfl
  | c :: l, p, ts, h => by
    have h0 : f p = c := by have z := h 0 c rfl; rw [show p + ((0 : Nat) : Int) = p by omega] at z; exact z
    show (match tyc (f p) ts with | some ts' => if ts'.length ≤ 63 then tyr f l.length (p + 1) ts' else none | none => none) = (match tyc c ts with | some ts' => if ts'.length ≤ 63 then tyL l ts' else none | none => none)
    rw [h0]
    cases tyc c ts with
    | none => rfl
    | some ts' =>
      show (if ts'.length ≤ 63 then tyr f l.length (p + 1) ts' else none) = (if ts'.length ≤ 63 then tyL l ts' else none)
      rw [tyr_L f l (p + 1) ts' (fun j x hj => by rw [show p + 1 + (j : Int) = p + ((j + 1 : Nat) : Int) by omega]; exact h (j + 1) x hj)]
def tyB (m o : Nat) : Nat := match m with
  | 0 => 7 - o
  | 1 => 8 - o
  | 2 => 8 - o
  | 3 => 9 - o
  | 4 => 15 - 2 * o
  | 5 => 16 - 2 * o
  | 6 => 16 - 2 * o
  | _ => 17 - 2 * o
def tyS (m : Nat) (ts : List Bool) : List Bool := match m with
  | 2 => false :: ts
  | 6 => true :: ts
  | 8 => true :: ts
  | _ => ts
def tyX (m : Nat) : Bool := match m with
  | 0 => false
  | 1 => false
  | 2 => false
  | _ => true
def TyM : DR := fun m acc o _ r => match r with
  | .inr _ => True
  | .inl (_, c) => o ≤ 6 → ∀ ts : List Bool, ts.length + tyB m o ≤ 63 → tyL acc ts = some (tyS m ts) → tyL c ts = some (tyX m :: ts)
theorem tyc_num {c : Int} {ts : List Bool} (h : (1000 ≤ c ∧ c ≤ 10999) ∨ (4 ≤ c ∧ c ≤ 7)) : tyc c ts = some (false :: ts) := by
  unfold tyc
  rw [if_pos h]
theorem tyc_all {ts : List Bool} : tyc 17 ts = some (true :: ts) := by
  unfold tyc
  rw [if_neg (by decide), if_pos rfl]
theorem tyc_not {ts : List Bool} : tyc 16 (true :: ts) = some (true :: ts) := by
  unfold tyc
  rw [if_neg (by decide), if_neg (by decide)]
  show (if (16 : Int) = 16 then _ else _) = _
  rw [if_pos rfl]
theorem tyc_join {c : Int} {ts : List Bool} (h : 1 ≤ c ∧ c ≤ 3) : tyc c (false :: false :: ts) = some (false :: ts) := by
  unfold tyc
  rw [if_neg (by omega), if_neg (by omega)]
  show (if 1 ≤ c ∧ c ≤ 3 then _ else _) = _
  rw [if_pos h]
theorem tyc_comp {c : Int} {ts : List Bool} (h : 11 ≤ c ∧ c ≤ 13) : tyc c (false :: false :: ts) = some (true :: ts) := by
  unfold tyc
  rw [if_neg (by omega), if_neg (by omega)]
  show (if 1 ≤ c ∧ c ≤ 3 then _ else if 11 ≤ c ∧ c ≤ 13 then _ else _) = _
  rw [if_neg (by omega), if_pos h]
theorem tyc_lnk {c : Int} {ts : List Bool} (h : c = 14 ∨ c = 15) : tyc c (true :: true :: ts) = some (true :: ts) := by
  unfold tyc
  rw [if_neg (by omega), if_neg (by omega)]
  show (if c = 16 then _ else if c = 14 ∨ c = 15 then _ else _) = _
  rw [if_neg (by omega), if_pos h]
theorem tyL_three {a c : List Int} {x : Int} {ts us vs ws : List Bool} (h1 : tyL a ts = some us) (h2 : tyL c us = some vs) (h3 : tyc x vs = some ws) (l : ws.length ≤ 63) : tyL (a ++ c ++ [x]) ts = some ws := by
  rw [tyL_app (a := a ++ c) (us := vs) (by rw [tyL_app h1]; exact h2)]
  exact tyL_one h3 l
theorem cAt_in' {L : List Tok} {i : Nat} (h : cAt L i ≠ -1) : 11 ≤ cAt L i ∧ cAt L i ≤ 13 := by
  unfold cAt at h ⊢
  by_cases z : (tk L i).1 = 4
  · rw [if_pos z] at h ⊢
    unfold ccd at h ⊢
    (repeat' split at h ⊢) <;> omega
  · rw [if_neg z] at h; exact absurd rfl h
theorem fAt_ty {T : Int → Int} {n : Int} {L : List Tok} {i : Nat} (O : TxO T n) (LX : LexA T n L) (h : fAt L i ≠ -1) (nl : ¬ ((tk L i).1 = 2 ∧ (tk L i).2.1 + 4 < (tk L i).2.2.1)) : (1000 ≤ fAt L i ∧ fAt L i ≤ 10999) ∨ (4 ≤ fAt L i ∧ fAt L i ≤ 7) := by
  unfold fAt at h ⊢
  by_cases k : (tk L i).1 = 2
  · rw [if_pos k] at h ⊢
    have il : i < L.length := by
      apply Decidable.byContradiction
      intro z
      have e : tk L i = (0, 0, 0, 0) := by
        unfold tk
        rw [List.getD_eq_getElem?_getD, List.getElem?_eq_none (by omega)]; rfl
      rw [e] at k
      have k : (0 : Int) = 2 := k
      omega
    have A := LX.tok O il
    obtain ⟨_, he, hv, en⟩ := A.dig O (A.num k)
    have hs := he.1
    have l4 : (tk L i).2.2.1 - (tk L i).2.1 ≤ 4 := by
      apply Decidable.byContradiction
      intro z
      exact nl ⟨k, by omega⟩
    rw [if_pos l4] at hv
    have b := nv_in (T := T) (p := (tk L i).2.1) (k := ((tk L i).2.2.1 - (tk L i).2.1).toNat) (fun j j0 j1 => he.2.1 j j0 (by omega))
    rw [← hv] at b
    have pw : (10 : Nat) ^ ((tk L i).2.2.1 - (tk L i).2.1).toNat ≤ 10 ^ 4 := Nat.pow_le_pow_right (by decide) (by omega)
    have e1 : ((10 ^ ((tk L i).2.2.1 - (tk L i).2.1).toNat : Nat) : Int) = 10 ^ ((tk L i).2.2.1 - (tk L i).2.1).toNat := Int.natCast_pow 10 _
    have e2 : (10 : Nat) ^ 4 = 10000 := by decide
    left
    omega
  · rw [if_neg k] at h ⊢
    by_cases k1 : (tk L i).1 = 1
    · rw [if_pos k1] at h ⊢
      right
      rcases fcd_in (tk L i).2.2.2 with z | z | z | z | z <;> rw [z] at h ⊢ <;> first | omega | exact absurd rfl h
    · rw [if_neg k1] at h; exact absurd rfl h
theorem ty_clo {T : Int → Int} {n : Int} {L : List Tok} (O : TxO T n) (LX : LexA T n L) : Clo L TyM := by
  refine ⟨?_, ?_, ?_, ?_, ?_, ?_, ?_, ?_, ?_, ?_, ?_, ?_, ?_, ?_, ?_, ?_, ?_, ?_, ?_, ?_, ?_, ?_, ?_, ?_, ?_, ?_, ?_, ?_, ?_, ?_, ?_, ?_, ?_, ?_⟩
  · intro o i _ _; trivial
  · intro o i k p _ _ _; trivial
  · intro o i j c _ o6 ih _ o1 ts l e
    exact ih (by omega) ts (by simp only [tyB] at l ⊢; omega) e
  · intro o i j c _ _ _ _; trivial
  · intro o i _ _; trivial
  · intro o i _ _ _ _; trivial
  · intro o i _ f nl o1 ts l e
    refine tyL_one (tyc_num (fAt_ty O LX f nl)) ?_
    simp only [tyB] at l
    show ts.length + 1 ≤ 63
    omega
  · intro o i k p _; trivial
  · intro o i j c r h1 h2
    rcases r with ⟨j2, c2⟩ | z
    · intro o1 ts l e
      exact h2 o1 ts (by simp only [tyB] at l ⊢; omega) (h1 o1 ts (by simp only [tyB] at l ⊢; omega) e)
    · trivial
  · intro o i acc _ o1 ts l e
    exact e
  · intro o i acc k p _ _; trivial
  · intro o i acc j c r jn h1 h2
    rcases r with ⟨j2, c2⟩ | z
    · intro o1 ts l e
      refine h2 o1 ts l (tyL_three e (h1 o1 (false :: ts) (by simp only [tyB, List.length_cons] at l ⊢; omega) rfl) (tyc_join (jAt_in jn)) ?_)
      simp only [tyB] at l
      show ts.length + 1 ≤ 63
      omega
    · trivial
  · intro o i k p _; trivial
  · intro o i j c _ _; trivial
  · intro o i j c k p _ _ _; trivial
  · intro o i j c j' c' h1 cn h2 o1 ts l e
    refine tyL_three (h1 o1 ts (by simp only [tyB] at l ⊢; omega) rfl) (h2 o1 (false :: ts) (by simp only [tyB, List.length_cons] at l ⊢; omega) rfl) (tyc_comp (cAt_in' cn)) ?_
    simp only [tyB] at l
    show ts.length + 1 ≤ 63
    omega
  · intro o i _ o1 ts l e
    refine tyL_one tyc_all ?_
    simp only [tyB] at l
    show ts.length + 1 ≤ 63
    omega
  · intro o i _ _; trivial
  · intro o i k p _ _ _; trivial
  · intro o i j c _ o6 ih o1 ts l e
    rw [tyL_app (ih (by omega) ts (by simp only [tyB] at l ⊢; omega) rfl)]
    refine tyL_one tyc_not ?_
    simp only [tyB] at l
    show ts.length + 1 ≤ 63
    omega
  · intro o i k p _ _ _; trivial
  · intro o i j c _ o6 ih _ o1 ts l e
    exact ih (by omega) ts (by simp only [tyB] at l ⊢; omega) rfl
  · intro o i j c _ _ _ _; trivial
  · intro o i r _ _ _ h
    rcases r with ⟨j2, c2⟩ | z
    · intro o1 ts l e
      exact h o1 ts (by simp only [tyB] at l ⊢; omega) rfl
    · trivial
  · intro o i k p _; trivial
  · intro o i j c r h1 h2
    rcases r with ⟨j2, c2⟩ | z
    · intro o1 ts l e
      exact h2 o1 ts l (h1 o1 ts (by simp only [tyB] at l ⊢; omega) rfl)
    · trivial
  · intro o i acc _ o1 ts l e
    exact e
  · intro o i acc k p _ _; trivial
  · intro o i acc j c r _ h1 h2
    rcases r with ⟨j2, c2⟩ | z
    · intro o1 ts l e
      refine h2 o1 ts l (tyL_three e (h1 o1 (true :: ts) (by simp only [tyB, List.length_cons] at l ⊢; omega) rfl) (tyc_lnk (Or.inl rfl)) ?_)
      simp only [tyB] at l
      show ts.length + 1 ≤ 63
      omega
    · trivial
  · intro o i k p _; trivial
  · intro o i j c r h1 h2
    rcases r with ⟨j2, c2⟩ | z
    · intro o1 ts l e
      exact h2 o1 ts l (h1 o1 ts (by simp only [tyB] at l ⊢; omega) rfl)
    · trivial
  · intro o i acc _ o1 ts l e
    exact e
  · intro o i acc k p _ _; trivial
  · intro o i acc j c r _ h1 h2
    rcases r with ⟨j2, c2⟩ | z
    · intro o1 ts l e
      refine h2 o1 ts l (tyL_three e (h1 o1 (true :: ts) (by simp only [tyB, List.length_cons] at l ⊢; omega) rfl) (tyc_lnk (Or.inr rfl)) ?_)
      simp only [tyB] at l
      show ts.length + 1 ≤ 63
      omega
    · trivial
theorem Dv.ty {T : Int → Int} {n : Int} {L : List Tok} (O : TxO T n) (LX : LexA T n L) {i j : Nat} {c : List Int} (D : Dv L 7 [] 0 i (okR j c)) : tyL c [] = some [true] := D TyM (ty_clo O LX) (by decide) [] (by decide) rfl

