/-! THE TAPE alike, MESSAGE alike -/
def TI (h : PH) : Prop := (0 ≤ gv h 3 1 ∧ gv h 3 1 ≤ 700) ∧ gv h 66 1 = gv h 3 1 ∧ ∀ i, 0 ≤ i → i < gv h 3 1 → gv h 4 i % 256 = gv h 67 i
theorem TI.kp {h h' : PH} (M : TI h) (e : ∀ a i, (a = 3 ∧ i = 1) ∨ (a = 66 ∧ i = 1) ∨ a = 4 ∨ a = 67 → gv h' a i = gv h a i) : TI h' := by
  unfold TI
  rw [e 3 1 (Or.inl ⟨rfl, rfl⟩), e 66 1 (Or.inr (Or.inl ⟨rfl, rfl⟩))]
  exact ⟨M.1, M.2.1, fun i i0 i1 => by rw [e 4 i (Or.inr (Or.inr (Or.inl rfl))), e 67 i (Or.inr (Or.inr (Or.inr rfl)))]; exact M.2.2 i i0 i1⟩
def tx (h : PH) (i : Int) : Int := if 0 ≤ i ∧ i < gv h 3 1 then gv h 67 i else -1
theorem TI.txt {h : PH} (M : TI h) : TxO (tx h) (gv h 3 1) ∧ TxX h (tx h) (gv h 3 1) ∧ ∀ i, 0 ≤ i → i < gv h 3 1 → gv h 67 i = tx h i := by
  have z : ∀ i, 0 ≤ i → i < gv h 3 1 → tx h i = gv h 67 i := fun i i0 i1 => if_pos ⟨i0, i1⟩
  refine ⟨⟨M.1, fun i i0 i1 => ?_, fun i hi => if_neg hi⟩, ⟨rfl, fun i i0 i1 => ?_⟩, fun i i0 i1 => (z i i0 i1).symm⟩
  · rw [z i i0 i1, ← M.2.2 i i0 i1]; omega
  · rw [z i i0 i1]; exact M.2.2 i i0 i1
theorem TI.empty {h : PH} (a : gv h 3 1 = 0) (b : gv h 66 1 = 0) : TI h := ⟨by omega, by omega, fun i i0 i1 => by omega⟩
theorem okW_congr {h h' : PH} (K : Keep bkB h h') (k w : Int) : okW h' k w ↔ okW h k w := by
  unfold okW
  rw [(bk_congr K k).1, (bk_congr K k).2.2.2.2.2]
theorem Scn.cong {T : Int → Int} {n : Int} {ok ok' : Int → Prop} (e : ∀ w, ok w ↔ ok' w) : ∀ {l : List Int} {p : Int}, Scn T n ok l p ↔ Scn T n ok' l p
  | [], p => Iff.rfl
  | w :: l, p => by
    constructor
    · rintro ⟨s, f, a, b, c, d, g, k, r⟩; exact ⟨s, f, a, b, c, d, g, (e w).1 k, (Scn.cong e).1 r⟩
    · rintro ⟨s, f, a, b, c, d, g, k, r⟩; exact ⟨s, f, a, b, c, d, g, (e w).2 k, (Scn.cong e).2 r⟩
theorem Msg.congr {h h' : PH} (K : Keep bkB h h') {T : Int → Int} {n r : Int} {l : List Int} (m : Msg h' T n r l) : Msg h T n r l := by
  unfold Msg MsgR at m ⊢
  rw [kb_congr K] at m
  have e := fun l p => Scn.cong (T := T) (n := n) (l := l) (p := p) (fun w => okW_congr K (kb h) w)
  rcases m with m | ⟨a, m⟩
  · exact Or.inl m
  · refine Or.inr ⟨a, ?_⟩
    rcases m with ⟨b, c⟩ | ⟨b, c, d⟩
    · exact Or.inl ⟨(e l 0).1 b, c⟩
    · exact Or.inr ⟨b, c, fun l' hl => d l' ((e l' 0).2 hl)⟩
theorem Msg.same {h : PH} {T : Int → Int} {n r r' : Int} {l l' : List Int} (O : TxO T n) (a : Msg h T n r l) (b : Msg h T n r' l') : r = r' ∧ l = l' ∧ (r ≠ -1 → 1 ≤ r ∧ r ≤ 12 ∧ r = l.length) := by
  rcases a with ⟨a1, a2, a3⟩ | ⟨a1, a2⟩ <;> rcases b with ⟨b1, b2, b3⟩ | ⟨b1, b2⟩
  · exact ⟨by omega, by rw [a3, b3], fun z => absurd a2 z⟩
  · exact absurd a1 b1
  · exact absurd b1 a1
  · obtain ⟨s1, s2⟩ := a2.same O b2
    refine ⟨s1, s2, fun z => ?_⟩
    rcases a2 with ⟨_, x1, x2, x3⟩ | ⟨x, _⟩
    · omega
    · exact absurd x z
def MsgX (h : PH) (r : Int) (h' : PH) : Prop := gv h' 3 1 = 0 ∧ ∃ l, Msg h (tx h) (gv h 3 1) r l ∧ ((r = -1 ∧ gv h' 2 10 = gv h 2 10 ∧ ∀ i, gv h' 64 i = gv h 64 i) ∨ (r ≠ -1 ∧ gv h' 2 10 = r ∧ ∀ (j : Nat) w, l[j]? = some w → gv h' 64 j = w))
def MsgM (h : PH) (T : Int → Int) (n r : Int) (h' : PH) : Prop := gv h' 66 1 = 0 ∧ ∃ l, Msg h T n r l ∧ ((r = -1 ∧ gv h' 66 59 = gv h 66 59 ∧ ∀ i, gv h' 107 i = gv h 107 i) ∨ (r ≠ -1 ∧ gv h' 66 59 = r ∧ ∀ (j : Nat) w, l[j]? = some w → gv h' 107 j = w))
theorem message_same {h h1 h2 : PH} {r r' : Int} (I : TI h) (M : MI h) (k1 : Keep xmA h h1) (x : MsgX h r h1) (k2 : Keep mmA h1 h2) (m : MsgM h1 (tx h) (gv h 3 1) r' h2) : r = r' ∧ MI h2 ∧ TI h2 := by
  have kB := k1.wide xmA_bkB
  obtain ⟨x0, l, x1, x2⟩ := x
  obtain ⟨m0, l', m1, m2⟩ := m
  obtain ⟨s1, s2, s3⟩ := x1.same I.txt.1 (m1.congr kB)
  subst s1
  subst s2
  refine ⟨rfl, ?_, TI.empty ((k2.1 3 1 rfl).trans x0) m0⟩
  have f10 : gv h2 2 10 = gv h1 2 10 := k2.1 2 10 rfl
  have f64 : ∀ i, gv h2 64 i = gv h1 64 i := fun i => k2.1 64 i rfl
  have g59 : gv h1 66 59 = gv h 66 59 := k1.1 66 59 rfl
  have g107 : ∀ i, gv h1 107 i = gv h 107 i := fun i => k1.1 107 i rfl
  obtain ⟨M1, M2, M3⟩ := M
  unfold MI
  rcases x2 with ⟨a, b, c⟩ | ⟨a, b, c⟩
  · rcases m2 with ⟨a', b', c'⟩ | ⟨a', b', c'⟩
    · rw [f10, b, b', g59]
      exact ⟨M1, M2, fun i i0 i1 => by rw [f64, c', g107, c]; exact M3 i i0 i1⟩
    · exact absurd a a'
  · rcases m2 with ⟨a', b', c'⟩ | ⟨a', b', c'⟩
    · exact absurd a' a
    · obtain ⟨t1, t2, t3⟩ := s3 a
      rw [f10, b, b']
      refine ⟨by omega, rfl, fun i i0 i1 => ?_⟩
      have hg : l[i.toNat]? = some (l[i.toNat]'(by omega)) := List.getElem?_eq_getElem (by omega)
      have y1 := c _ _ hg
      have y2 := c' _ _ hg
      rw [Int.toNat_of_nonneg i0] at y1 y2
      rw [f64, y1, y2]

