/-! BOOK: the pair of calls -/
theorem inv_ofE {h h' : PH} (I : Inv h) (e : ∀ a i, (((6 ≤ a ∧ a ≤ 10) ∨ (86 ≤ a ∧ a ≤ 91)) ∨ ((a = 2 ∧ i = 10) ∨ (a = 66 ∧ i = 59) ∨ a = 107 ∨ a = 64) ∨ ((a = 2 ∧ i = 12) ∨ (a = 66 ∧ i = 68) ∨ a = 114 ∨ a = 65) ∨ ((40 ≤ a ∧ a ≤ 58) ∨ (a = 38 ∧ (i = 3 ∨ i = 15)) ∨ (115 ≤ a ∧ a ≤ 124) ∨ (a = 66 ∧ 70 ≤ i ∧ i ≤ 81)) ∨ ((a = 66 ∧ i = 87) ∨ (a = 59 ∧ i = 6) ∨ a = 62 ∨ a = 127) ∨ (68 ≤ a ∧ a ≤ 78)) → gv h' a i = gv h a i)
    (t : ∀ a, 68 ≤ a → a ≤ 78 → tg h' a = tg h a ∧ ln h' a = ln h a) (A : AI h') (T : TI h') (f1 : gv h' 11 6 = gv h' 66 7) (f2 : gv h' 11 7 = gv h' 66 8) : Inv h' := by
  obtain ⟨i1, _, i3, i4, i5, i6, _, i8, _, _⟩ := I
  refine ⟨i1.of (fun a i z => e a i (Or.inl (flA_of z))), A, i3.kp (fun a i z => e a i (Or.inr (Or.inl z))), i4.kp (fun a i z => e a i (Or.inr (Or.inr (Or.inl z)))), i5.kp (fun a i z => e a i (Or.inr (Or.inr (Or.inr (Or.inl z))))), i6.kp (fun a i z => e a i (Or.inr (Or.inr (Or.inr (Or.inr (Or.inl z)))))), T, ?_, f1, f2⟩
  have w : ∀ {a : Int} {l : Nat} {f : Nat → Int}, 68 ≤ a → a ≤ 78 → WdA h a l f → WdA h' a l f := fun {a l f} a0 a1 W =>
    ⟨(t a a0 a1).1.trans W.1, (t a a0 a1).2.trans W.2.1, W.2.2.1, fun j hj => ⟨(e a j (Or.inr (Or.inr (Or.inr (Or.inr (Or.inr ⟨a0, a1⟩)))))).trans (W.2.2.2 j hj).1, (W.2.2.2 j hj).2⟩⟩
  obtain ⟨w1, w2, w3, w4, w5, w6, w7, w8, w9, w10, w11⟩ := i8
  exact ⟨w (by decide) (by decide) w1, w (by decide) (by decide) w2, w (by decide) (by decide) w3, w (by decide) (by decide) w4, w (by decide) (by decide) w5, w (by decide) (by decide) w6, w (by decide) (by decide) w7, w (by decide) (by decide) w8, w (by decide) (by decide) w9, w (by decide) (by decide) w10, w (by decide) (by decide) w11⟩
theorem book_pair {d d2 : Nat} {h : PH} {Q : Int → Int → PH → Prop} (S : Shape h) (I : Inv h)
    (K : ∀ r h2, Inv h2 → Sc h h2 → Shape h2 → Q r r h2) :
    Wp (d + 32) 8 3000 M_X11_book 0 [some (.inr (.inr 2)), none] [] h (fun v h1 => ∃ r, v = some (.inl r) ∧ Shape h1 ∧ Sc h h1 ∧ Wp (d2 + 10) 0 0 M_X12_book 0 [some (.inr (.inr 66)), none, none] [] h1 (fun v2 h2 => ∃ r2, v2 = some (.inl r2) ∧ Q r r2 h2)) := by
  have A := inv_A I
  have T := inv_T I
  have n8 := S.1
  obtain ⟨⟨a1, a2, a3, a4, a5, a6, a7⟩, _, _⟩ := A
  obtain ⟨O, Y, Z⟩ := T.txt
  have t1 := T.1
  have t2 := T.2.1
  refine x_book S a1 a2 O Y (fun full h1 e1 S1 => ?_) (fun lt h1 L k p R k1 LX D f3 f6 f7 x18 x19 S1 => ?_) (fun lt h1 L G LX D g40 pl X S1 => ?_)
  · have kx : Keep feA h h1 := by rw [e1]; exact (Keep.rf _ _).sv rfl _
    refine ⟨-2, rfl, S1, sc_of kx (fun _ => rfl), ?_⟩
    refine m_bookFull S1 (by rw [kx.1 66 40 rfl]; omega) (fun h2 e2 S2 => ⟨-2, rfl, ?_⟩)
    have km : Keep feA h1 h2 := by rw [e2]; exact (Keep.rf _ _).sv rfl _
    obtain ⟨I2, s2⟩ := inv_feA I (kx.trans km) (TI.empty (by rw [e2, sv_ne (by decide), e1, sv_eq]) (by rw [e2, sv_eq]))
    exact K _ _ I2 s2 S2
  · have s1 : Sc h h1 := sc_of k1 (fun _ => rfl)
    refine ⟨-1, rfl, S1, s1, ?_⟩
    have e40 : gv h1 66 40 = gv h 66 40 := k1.1 66 40 rfl
    refine m_bookBad S1 (by omega) O (by rw [k1.1 66 1 rfl]; exact t2) (fun i i0 i1 => by rw [k1.1 67 i rfl]; exact Z i i0 i1) ((inv_W I).kp k1 (fun a i x y => decide_eq_false (by omega))) LX D (fun h2 p2 S2 => ⟨-1, rfl, ?_⟩)
    obtain ⟨km, m1, m7, m8⟩ := p2
    refine K _ _ (inv_ofE I (fun a i z => (km.1 a i (decide_eq_false (by omega))).trans (k1.1 a i (decide_eq_false (by omega)))) (fun a x y => ⟨(km.2.2.1 a).trans (k1.2.2.1 a), (km.2.2.2 a).trans (k1.2.2.2 a)⟩) (book_bad S (inv_A I) k1 x18 x19 km) (TI.empty ((km.1 3 1 rfl).trans f3) m1) ?_ ?_) (s1.trans (sc_of km (fun _ => rfl))) S2
    · rw [km.1 11 6 rfl, f6, m7]
    · rw [km.1 11 7 rfl, f7, m8]
  · obtain ⟨kx, nxx, ⟨x3, x6, x7, x18, x19⟩, xo, XA⟩ := id X
    have o1 : ∀ b i, b < 128 → bxA b i = false → gv h1 b i = gv h b i := fun b i hb z => (kx.2 b (by omega)).2.2 i z
    have s1 : Sc h h1 := ⟨(kx.2 1 (by omega)).1, (kx.2 1 (by omega)).2.1, fun j => o1 1 j (by decide) rfl⟩
    refine ⟨gv h 18 5 + 1, rfl, S1, s1, ?_⟩
    have e40 : gv h1 66 40 = gv h 18 5 := (o1 66 40 (by decide) rfl).trans a3
    have W1 : WrdI h1 := by
      have w : ∀ {a : Int} {l : Nat} {f : Nat → Int}, 68 ≤ a → a ≤ 78 → WdA h a l f → WdA h1 a l f := fun {a l f} a0 a1' W =>
        ⟨(kx.2 a (by omega)).1.trans W.1, (kx.2 a (by omega)).2.1.trans W.2.1, W.2.2.1, fun j hj => ⟨(o1 a j (by omega) (decide_eq_false (by omega))).trans (W.2.2.2 j hj).1, (W.2.2.2 j hj).2⟩⟩
      obtain ⟨w1, w2, w3, w4, w5, w6, w7, w8, w9, w10, w11⟩ := inv_W I
      exact ⟨w (by decide) (by decide) w1, w (by decide) (by decide) w2, w (by decide) (by decide) w3, w (by decide) (by decide) w4, w (by decide) (by decide) w5, w (by decide) (by decide) w6, w (by decide) (by decide) w7, w (by decide) (by decide) w8, w (by decide) (by decide) w9, w (by decide) (by decide) w10, w (by decide) (by decide) w11⟩
    refine m_bookOk S1 e40 a1 lt O (by rw [o1 66 1 (by decide) rfl]; exact t2) (fun i i0 i1 => by rw [o1 67 i (by decide) rfl]; exact Z i i0 i1) W1 LX D g40 pl (fun h2 M S2 => ⟨gv h 18 5 + 1, rfl, ?_⟩)
    have A2 : AI h2 := book_ai S (inv_A I) lt X M g40 pl (fun s hs => by
      obtain ⟨G', i', j, st⟩ := okb_st D s hs
      exact st.sns O LX)
    obtain ⟨km, ⟨m1, m7, m8, m40⟩, _, _, _⟩ := M
    have f : ∀ (z : ¬ 128 ≤ gv h 18 5), True := fun _ => trivial
    refine K _ _ (inv_ofE I (fun a i z => (km.1 a i (decide_eq_false (by omega))).trans (o1 a i (by omega) (decide_eq_false (by omega)))) (fun a x y => ⟨(km.2.2.1 a).trans (kx.2 a (by omega)).1, (km.2.2.2 a).trans (kx.2 a (by omega)).2.1⟩) A2 (TI.empty ((km.1 3 1 (decide_eq_false (by omega))).trans x3) m1) ?_ ?_) (s1.trans (sc_of km (fun i => decide_eq_false (by omega)))) S2
    · rw [km.1 11 6 (decide_eq_false (by omega)), x6, m7]
    · rw [km.1 11 7 (decide_eq_false (by omega)), x7, m8]

