/-! THE NEW BOOK: what its rows are -/
theorem wv_letters (T : Int → Int) (p : Int) : ∀ k : Nat, k ≤ 4 → (∀ i, p ≤ i → i < p + k → isLet (T i)) → rl (wv T p k) = k ∧ ∀ j : Nat, j < k → sg (wv T p k) k j = T (p + j) - 97 + 1
  | 0, _, _ => ⟨rfl, fun j hj => absurd hj (Nat.not_lt_zero j)⟩
  | k + 1, h4, al => by
    obtain ⟨r, s⟩ := wv_letters T p k (by omega) (fun i i0 i1 => al i i0 (by omega))
    have b := wv_in (T := T) (p := p) (k := k) (fun i i0 i1 => al i i0 (by omega))
    have b1 := wv_in (T := T) (p := p) (k := k + 1) al
    have y := al (p + k) (by omega) (by omega)
    have pw : (32 : Nat) ^ (k + 1) ≤ 32 ^ 4 := Nat.pow_le_pow_right (by decide) (by omega)
    have e1 : ((32 ^ (k + 1) : Nat) : Int) = 32 ^ (k + 1) := Int.natCast_pow 32 _
    have e2 : (32 : Nat) ^ 4 = 1048576 := by decide
    have ev : wv T p (k + 1) = wv T p k * 32 + (T (p + k) - 97 + 1) := rfl
    have pos := b1.2.2 (by omega)
    refine ⟨?_, fun j hj => ?_⟩
    · rw [rl_up pos (by omega), ev, show (wv T p k * 32 + (T (p + k) - 97 + 1)) / 32 = wv T p k by omega, r]; rfl
    · rw [ev, show ((k + 1 : Nat) : Int) = (k : Int) + 1 by omega]
      by_cases z : j = k
      · rw [z]
        exact sg_hi (l := wv T p k) (y := T (p + k) - 97 + 1) (k := (k : Int)) (by omega) (by omega)
      · have z2 := sg_lo (l := wv T p k) (y := T (p + k) - 97 + 1) (k := k) (j := j) (by omega) (by omega) (by omega) (by omega) (by omega)
        rw [z2]
        exact s j (by omega)
theorem okb_st {L : List Tok} : ∀ {R G : List Sns} {i : Nat}, OkB L R G i → ∀ s, s ∈ R → ∃ G' i' j, StOk L G' i' j s
  | [], _, _, _, s, h => absurd h (List.not_mem_nil)
  | x :: R, G, i, D, s, h => by
    obtain ⟨_, _, j, st, D2⟩ : (tk L i).1 ≠ 0 ∧ G.length < 40 ∧ ∃ j, StOk L G i j x ∧ OkB L R (G ++ [x]) j := D
    rcases List.mem_cons.1 h with e | e
    · rw [e]; exact ⟨_, _, _, st⟩
    · exact okb_st D2 s e
theorem tk_out {L : List Tok} {i : Nat} (h : (tk L i).1 ≠ 0) : i < L.length := by
  apply Decidable.byContradiction
  intro z
  have e : tk L i = (0, 0, 0, 0) := by
    unfold tk
    rw [List.getD_eq_getElem?_getD, List.getElem?_eq_none (by omega)]; rfl
  rw [e] at h
  exact h rfl
/-- what a sense that was read is like -/
def SnsOk (s : Sns) : Prop := (1 ≤ s.1 ∧ s.1 < 1073741824) ∧ letters s.2.1 ∧ (s.2.2 ≠ [] → tyL s.2.2 [] = some [true])
theorem StOk.sns {T : Int → Int} {n : Int} {L : List Tok} (O : TxO T n) (LX : LexA T n L) {G : List Sns} {i j : Nat} {s : Sns} (h : StOk L G i j s) : SnsOk s := by
  obtain ⟨_, ⟨k1, _, l6, _⟩, _, ⟨k3, c1, c4⟩, j2, ts, _, _, e1, e2⟩ := h
  refine ⟨?_, ?_, ?_⟩
  · have il : i + 1 < L.length := tk_out (by omega)
    have A := LX.tok O il
    obtain ⟨_, he, hv, en⟩ := A.let O (A.wd k1)
    have vb := val_in O LX il
    have l := A.wd k1
    have lt : (tk L (i + 1)).2.1 < (tk L (i + 1)).2.2.1 := by
      obtain ⟨a, b, c⟩ := he
      apply Decidable.byContradiction
      intro z
      rw [show (tk L (i + 1)).2.2.1 = (tk L (i + 1)).2.1 by omega] at c
      exact c l
    have w := wv_in (T := T) (p := (tk L (i + 1)).2.1) (k := ((tk L (i + 1)).2.2.1 - (tk L (i + 1)).2.1).toNat) (fun x x0 x1 => he.2.1 x x0 (by omega))
    have z := w.2.2 (by omega)
    unfold wq at hv
    rw [if_pos l6] at hv
    rw [e1]
    omega
  · have il : i + 3 < L.length := tk_out (by omega)
    have A := LX.tok O il
    obtain ⟨he, hv, en, _⟩ := (A.cd O).2 k3
    unfold wq at hv
    rw [if_pos (by omega)] at hv
    obtain ⟨r, sgs⟩ := wv_letters T ((tk L (i + 3)).2.1 + 1) ((tk L (i + 3)).2.2.1 - ((tk L (i + 3)).2.1 + 1)).toNat (by omega) (fun x x0 x1 => he.2.1 x x0 (by omega))
    rw [← hv] at r sgs
    rw [e2]
    refine ⟨by omega, fun k k0 k1' => ?_⟩
    have z := sgs k.toNat (by omega)
    rw [Int.toNat_of_nonneg k0] at z
    have y := he.2.1 ((tk L (i + 3)).2.1 + 1 + k) (by omega) (by omega)
    rw [r, z]
    omega
  · intro ne
    rcases ts with ⟨_, D⟩ | ⟨_, _, z⟩
    · exact D.ty O LX
    · exact absurd z ne
theorem tyr_congr {f g : Int → Int} : ∀ (n : Nat) (p : Int) (ts : List Bool), (∀ j, p ≤ j → j < p + n → f j = g j) → tyr f n p ts = tyr g n p ts
  | 0, _, _, _ => rfl
  | n + 1, p, ts, h => by
    show (match tyc (f p) ts with | some ts' => if ts'.length ≤ 63 then tyr f n (p + 1) ts' else none | none => none) = (match tyc (g p) ts with | some ts' => if ts'.length ≤ 63 then tyr g n (p + 1) ts' else none | none => none)
    rw [h p (by omega) (by omega)]
    cases tyc (g p) ts with
    | none => rfl
    | some ts' =>
      show (if ts'.length ≤ 63 then tyr f n (p + 1) ts' else none) = (if ts'.length ≤ 63 then tyr g n (p + 1) ts' else none)
      rw [tyr_congr n (p + 1) ts' (fun j j0 j1 => h j (by omega) (by omega))]
/-- a book's rows stay where only other books' rows change -/
theorem BkR.low {h h' : PH} {a k : Int} (R : BkR h a k) (e79 : gv h' 79 k = gv h 79 k) (e8 : ∀ x i, 80 ≤ x → x ≤ 83 → 0 ≤ i → i < 40 → gv h' x (40 * k + i) = gv h x (40 * k + i)) (e84 : ∀ p, 0 ≤ p → p < 700 → gv h' 84 (700 * k + p) = gv h 84 (700 * k + p))
    (nn : nx h ≤ nx h') (eb : ∀ b, a ≤ b → b ≤ a + 6 → tg h' b = tg h b ∧ ln h' b = ln h b ∧ ∀ i, gv h' b i = gv h b i) : BkR h' a k := by
  obtain ⟨r1, r2, pl, r3, r4, B, r5⟩ := R
  have en : ∀ i, 0 ≤ i → i < 40 → nm h' k i = nm h k i := fun i i0 i1 => e8 80 i (by decide) (by decide) i0 i1
  have ed : ∀ i, 0 ≤ i → i < 40 → cd h' k i = cd h k i := fun i i0 i1 => e8 81 i (by decide) (by decide) i0 i1
  have ef : ∀ i, 0 ≤ i → i < 40 → tf h' k i = tf h k i := fun i i0 i1 => e8 82 i (by decide) (by decide) i0 i1
  have ee : ∀ i, 0 ≤ i → i < 40 → te h' k i = te h k i := fun i i0 i1 => e8 83 i (by decide) (by decide) i0 i1
  have ec : ∀ p, 0 ≤ p → p < 700 → cc h' k p = cc h k p := e84
  have g : ∀ o i, 0 ≤ o → o ≤ 6 → gv h' (a + o) i = gv h (a + o) i := fun o i o0 o1 => (eb (a + o) (by omega) (by omega)).2.2 i
  have g0 : ∀ i, gv h' a i = gv h a i := fun i => (eb a (by omega) (by omega)).2.2 i
  have t : ∀ o, 0 ≤ o → o ≤ 6 → tg h' (a + o) = tg h (a + o) ∧ ln h' (a + o) = ln h (a + o) := fun o o0 o1 => ⟨(eb (a + o) (by omega) (by omega)).1, (eb (a + o) (by omega) (by omega)).2.1⟩
  have B' : BkS h' a (gv h 79 k) pl := by
    obtain ⟨⟨b1, b1'⟩, b2, b3, b4, ⟨b51, b52, b53, b54, b55, b56⟩, b61, b62, b63, b64, b65, b66⟩ := B
    refine ⟨⟨b1, by omega⟩, (eb a (by omega) (by omega)).1.trans b2, (g0 0).trans b3, ?_, ⟨(t 1 (by decide) (by decide)).1.trans b51, (t 2 (by decide) (by decide)).1.trans b52, (t 3 (by decide) (by decide)).1.trans b53, (t 4 (by decide) (by decide)).1.trans b54, (t 5 (by decide) (by decide)).1.trans b55, (t 6 (by decide) (by decide)).1.trans b56⟩, (t 1 (by decide) (by decide)).2.trans b61, (t 2 (by decide) (by decide)).2.trans b62, (t 3 (by decide) (by decide)).2.trans b63, (t 4 (by decide) (by decide)).2.trans b64, (t 5 (by decide) (by decide)).2.trans b65, (t 6 (by decide) (by decide)).2.trans b66⟩
    rw [g0, g0, g0, g0, g0, g0]; exact b4
  unfold BkR
  rw [e79]
  refine ⟨r1, r2, pl, r3, r4, B', fun i i0 i1 => ?_⟩
  obtain ⟨⟨i1a, i1b⟩, ⟨i2, i2'⟩, i3, i4, i5, i6, ⟨i7a, i7b, i7c⟩, i8, i9⟩ := r5 i i0 i1
  have i40 : i < 40 := by omega
  unfold BkI
  rw [en i i0 i40, ed i i0 i40, ef i i0 i40, ee i i0 i40, e79, g 1 i (by decide) (by decide), g 2 i (by decide) (by decide), g 3 i (by decide) (by decide), g 5 i (by decide) (by decide), g 6 i (by decide) (by decide)]
  refine ⟨⟨i1a, i1b⟩, ⟨i2, i2'⟩, i3, isF_congr (fun j j0 j1 => (en j j0 (by omega)).symm) i4, i5, ?_, ⟨i7a, i7b, i7c⟩, fun z => ?_, fun p p0 p1 => ?_⟩
  · by_cases z : i = 0
    · rw [if_pos z] at i6 ⊢; exact i6
    · rw [if_neg z] at i6 ⊢; rw [ee (i - 1) (by omega) (by omega)]; exact i6
  · rw [← i8 z]
    exact tyr_congr _ _ _ (fun j j0 j1 => ec j (by omega) (by omega))
  · rw [g 4 p (by decide) (by decide), ec p (by omega) (by omega)]; exact i9 p p0 p1

