/-! BOOK alike: the acts after a new book -/
theorem len_take_le (G : List Sns) {i j : Nat} (h : i ≤ j) : (prgG (G.take i)).length ≤ (prgG (G.take j)).length := by
  have e : G.take j = G.take i ++ (G.take j).drop i := by
    have z := List.take_append_drop i (G.take j)
    rw [List.take_take, Nat.min_eq_left h] at z
    exact z.symm
  rw [e]
  unfold prgG
  rw [List.flatMap_append, List.length_append]
  exact Nat.le_add_right _ _
theorem take_snoc {G : List Sns} {i : Nat} {s : Sns} (h : G[i]? = some s) : prgG (G.take (i + 1)) = prgG (G.take i) ++ s.2.2 ∧ ∃ r, prgG G = prgG (G.take i) ++ s.2.2 ++ r := by
  have e : G.take (i + 1) = G.take i ++ [s] := by
    rw [List.take_add_one, h]; rfl
  have e1 : prgG (G.take (i + 1)) = prgG (G.take i) ++ s.2.2 := by
    rw [e]
    unfold prgG
    rw [List.flatMap_append]
    show _ ++ (s.2.2 ++ []) = _
    rw [List.append_nil]
  refine ⟨e1, prgG (G.drop (i + 1)), ?_⟩
  rw [← e1]
  unfold prgG
  rw [← List.flatMap_append, List.take_append_drop]
theorem new_BkR {h1 h2 : PH} {G : List Sns} {a k : Int} (XA : BkXa h1 G a) (g40 : G.length ≤ 40) (pl : (prgG G).length ≤ 700) (sn : ∀ s, s ∈ G → SnsOk s) (K : Keep (mbO (k - 1)) h1 h2) (a8 : 128 ≤ a)
    (m79 : gv h2 79 k = G.length) (mr : ∀ (i : Nat) s, G[i]? = some s → nm h2 k i = s.1 ∧ cd h2 k i = s.2.1 ∧ tf h2 k i = (prgG (G.take i)).length ∧ te h2 k i = (prgG (G.take (i + 1))).length) (mc : ∀ (j : Nat) x, (prgG G)[j]? = some x → cc h2 k j = x) : BkR h2 a k := by
  obtain ⟨B, xr, xc⟩ := XA
  have ev : ∀ b i, 128 ≤ b → gv h2 b i = gv h1 b i := fun b i hb => K.1 b i (decide_eq_false (by omega))
  have B2 : BkS h2 a G.length (prgG G).length := by
    obtain ⟨b1, b2, b3, b4, b5, b6⟩ := B
    unfold BkS
    rw [ev a _ a8, ev a _ a8, ev a _ a8, ev a _ a8, ev a _ a8, ev a _ a8, ev a _ a8]
    simp only [K.2.1, K.2.2.1, K.2.2.2]
    exact ⟨b1, b2, b3, b4, b5, b6⟩
  unfold BkR
  rw [m79]
  refine ⟨by omega, by omega, (prgG G).length, by omega, by omega, B2, fun i i0 i1 => ?_⟩
  obtain ⟨m, rfl⟩ : ∃ m : Nat, i = m := ⟨i.toNat, by omega⟩
  have hg : G[m]? = some (G[m]'(by omega)) := List.getElem?_eq_getElem (by omega)
  have hm : G[m]'(by omega) ∈ G := List.getElem_mem _
  generalize G[m]'(by omega) = s at hg hm
  obtain ⟨x1, x2, x3, x5, x6⟩ := xr m s hg
  obtain ⟨y1, y2, y3, y4⟩ := mr m s hg
  obtain ⟨q1, q2, q3⟩ := sn s hm
  obtain ⟨tk1, rr, tk2⟩ := take_snoc hg
  have le1 := len_take_le G (i := m) (j := m + 1) (Nat.le_succ m)
  have le2 := len_take_le G (i := m + 1) (j := G.length) (by omega)
  rw [List.take_length] at le2
  unfold BkI
  rw [y1, y2, y3, y4, m79, ev _ _ (by omega), ev (a + 2) _ (by omega), ev (a + 5) _ (by omega), ev (a + 6) _ (by omega), ev (a + 3) _ (by omega)]
  refine ⟨⟨x1, q1⟩, ⟨x2, q2⟩, x5, isF_congr (fun j j0 j1 => ?_) x6, x3, ?_, ⟨by omega, by omega, by omega⟩, fun z => ?_, fun p p0 p1 => ?_⟩
  · have hj : G[j.toNat]? = some (G[j.toNat]'(by omega)) := List.getElem?_eq_getElem (by omega)
    have z := (mr j.toNat _ hj).1
    rw [Int.toNat_of_nonneg j0] at z
    rw [z]
    unfold nmG
    rw [List.getD_eq_getElem?_getD, hj]; rfl
  · cases m with
    | zero => rfl
    | succ m =>
      rw [if_neg (by omega)]
      have hj : G[m]? = some (G[m]'(by omega)) := List.getElem?_eq_getElem (by omega)
      have z := (mr m _ hj).2.2.2
      rw [show (((m + 1 : Nat) : Int) - 1) = (m : Int) by omega, z]
  · have ln : (prgG (G.take (m + 1))).length = (prgG (G.take m)).length + s.2.2.length := by rw [tk1, List.length_append]
    rw [show (((prgG (G.take (m + 1))).length : Int) - ((prgG (G.take m)).length : Int)).toNat = s.2.2.length by omega]
    rw [tyr_L (cc h2 k) s.2.2 _ [] (fun j x hj => ?_)]
    · exact q3 (fun e => by rw [e] at ln; simp only [List.length_nil] at ln; omega)
    · have jl := get_lt hj
      have z : (prgG G)[(prgG (G.take m)).length + j]? = some x := by
        rw [tk2, List.append_assoc, List.getElem?_append_right (by omega), Nat.add_sub_cancel_left, List.getElem?_append_left jl]
        exact hj
      have w := mc _ x z
      rw [show (((prgG (G.take m)).length : Int) + (j : Int)) = (((prgG (G.take m)).length + j : Nat) : Int) by omega]
      exact w
  · have pn : p.toNat < (prgG G).length := by omega
    have hj : (prgG G)[p.toNat]? = some ((prgG G)[p.toNat]'pn) := List.getElem?_eq_getElem pn
    have w := mc _ _ hj
    have v := xc _ _ hj
    rw [Int.toNat_of_nonneg (by omega)] at w v
    rw [ev _ _ (by omega), v, w]
theorem book_ai {h h1 h2 : PH} {G : List Sns} (S : Shape h) (A : AI h) (c2 : gv h 18 5 < 200) (x : BkXd h h1 G) (m : BkMd h1 h2 G (gv h 18 5)) (g40 : G.length ≤ 40) (pl : (prgG G).length ≤ 700) (sn : ∀ s, s ∈ G → SnsOk s) : AI h2 := by
  obtain ⟨kx, nxx, ⟨x3, x6, x7, x18, x19⟩, xo, XA⟩ := x
  obtain ⟨km, ⟨m1, m7, m8, m40⟩, ⟨m79, m94, m98⟩, mr, mc⟩ := m
  have n8 := S.1
  obtain ⟨⟨a1, a2, a3, a4, a5, a6, a7⟩, b, c⟩ := A
  have o1 : ∀ b i, b < 128 → bxA b i = false → gv h1 b i = gv h b i := fun b i hb z => (kx.2 b (by omega)).2.2 i z
  have o : ∀ b i, b < 128 → bxA b i = false → mbO (gv h 18 5) b i = false → gv h2 b i = gv h b i := fun b i hb z y => (km.1 b i y).trans (o1 b i hb z)
  have e18 : gv h2 18 5 = gv h 18 5 + 1 := (km.1 18 5 (decide_eq_false (by omega))).trans x18
  have e186 : gv h2 18 6 = gv h 18 6 := o 18 6 (by decide) (by decide) (decide_eq_false (by omega))
  have e46 : gv h2 66 46 = gv h 66 46 := o 66 46 (by decide) (by decide) (decide_eq_false (by omega))
  have e19 : ∀ i, i ≠ gv h 18 5 + 1 → gv h2 19 i = gv h 19 i := fun i hi => (km.1 19 i (decide_eq_false (by omega))).trans (xo i hi)
  have eb : ∀ b i, 20 ≤ b → b ≤ 23 → gv h2 b i = gv h b i := fun b i b0 b1 => o b i (by omega) (decide_eq_false (by omega)) (decide_eq_false (by omega))
  have em : ∀ b i, 94 ≤ b → b ≤ 98 → i ≠ gv h 18 5 + 1 → gv h2 b i = gv h b i := fun b i b0 b1 hi => o b i (by omega) (decide_eq_false (by omega)) (decide_eq_false (by omega))
  unfold AI
  rw [e18, e186, e46, m40]
  refine ⟨⟨by omega, by omega, rfl, a4, a5, by omega, ?_⟩, fun k k0 k1 => ?_, fun k k0 k1 => ?_⟩
  · rw [e19 0 (by omega)]; exact a7
  · by_cases z : k = gv h 18 5 + 1
    · obtain ⟨c19, c20, c23⟩ := c (gv h 18 5 + 1) (by omega) (by omega)
      rw [z]
      refine ⟨?_, ?_, ?_, Or.inl ⟨m94, ?_, ?_⟩⟩
      · rw [m98, eb 23 _ (by decide) (by decide), c23]
      · rw [eb 23 _ (by decide) (by decide), c23]; exact Int.le_refl 0
      · rw [eb 23 _ (by decide) (by decide), c23]; decide
      · rw [eb 20 _ (by decide) (by decide), c20]
      · have e := (km.1 19 (gv h 18 5 + 1) (decide_eq_false (by omega))).trans x19
        rw [e]
        exact new_BkR XA g40 pl sn (by rw [show gv h 18 5 + 1 - 1 = gv h 18 5 by omega]; exact km) n8 m79 mr mc
    · obtain ⟨p1, p2, p3, p4⟩ := b k k0 (by omega)
      unfold AR
      rw [em 98 k (by decide) (by decide) z, eb 23 k (by decide) (by decide), em 94 k (by decide) (by decide) z, eb 20 k (by decide) (by decide), e19 k z, em 97 k (by decide) (by decide) z, em 95 k (by decide) (by decide) z, em 96 k (by decide) (by decide) z, eb 21 k (by decide) (by decide), eb 22 k (by decide) (by decide)]
      refine ⟨p1, p2, p3, ?_⟩
      rcases p4 with ⟨y1, y2, y3⟩ | y | y
      · refine Or.inl ⟨y1, y2, y3.low ?_ ?_ ?_ ?_ ?_⟩
        · exact o 79 k (by decide) (decide_eq_false (by omega)) (decide_eq_false (by omega))
        · exact fun x i x0 x1 i0 i1 => o x _ (by omega) (decide_eq_false (by omega)) (decide_eq_false (by omega))
        · exact fun p q0 q1 => o 84 _ (by decide) (decide_eq_false (by omega)) (decide_eq_false (by omega))
        · rw [km.2.1, nxx]; omega
        · intro bb w0 w1
          obtain ⟨_, _, pl', _, _, Bo, _⟩ := y3
          have lo := Bo.1.1
          have hi := Bo.1.2
          obtain ⟨t1, t2, t3⟩ := kx.2 bb (by omega)
          exact ⟨(km.2.2.1 bb).trans t1, (km.2.2.2 bb).trans t2, fun i => (km.1 bb i (decide_eq_false (by omega))).trans (t3 i (decide_eq_false (by omega)))⟩
      · exact Or.inr (Or.inl y)
      · exact Or.inr (Or.inr y)
  · have z : k ≠ gv h 18 5 + 1 := by omega
    rw [e19 k z, eb 20 k (by decide) (by decide), eb 23 k (by decide) (by decide)]
    exact c k (by omega) k1
/-- what the model's reading of a book with a fault leaves -/
theorem book_bad {h h1 h2 : PH} (S : Shape h) (A : AI h) (kx : Keep bxA h h1) (x18 : gv h1 18 5 = gv h 18 5) (x19 : ∀ i, gv h1 19 i = gv h 19 i) (km : Keep mbA h1 h2) : AI h2 := by
  obtain ⟨⟨a1, a2, a3, a4, a5, a6, a7⟩, b, c⟩ := A
  have o : ∀ b i, bxA b i = false → mbA b i = false → gv h2 b i = gv h b i := fun b i z y => (km.1 b i y).trans (kx.1 b i z)
  have e18 : gv h2 18 5 = gv h 18 5 := (km.1 18 5 rfl).trans x18
  have e186 : gv h2 18 6 = gv h 18 6 := o 18 6 rfl rfl
  have e46 : gv h2 66 46 = gv h 66 46 := o 66 46 rfl rfl
  have e40 : gv h2 66 40 = gv h 66 40 := o 66 40 rfl rfl
  have e19 : ∀ i, gv h2 19 i = gv h 19 i := fun i => (km.1 19 i rfl).trans (x19 i)
  have eb : ∀ b i, (20 ≤ b ∧ b ≤ 23) ∨ (94 ≤ b ∧ b ≤ 98) → gv h2 b i = gv h b i := fun b i hb => o b i (decide_eq_false (by omega)) (decide_eq_false (by omega))
  unfold AI
  rw [e18, e186, e46, e40, e19]
  refine ⟨⟨a1, a2, a3, a4, a5, a6, a7⟩, fun k k0 k1 => ?_, fun k k0 k1 => ?_⟩
  · obtain ⟨p1, p2, p3, p4⟩ := b k k0 k1
    unfold AR
    rw [eb 98 k (by decide), eb 23 k (by decide), eb 94 k (by decide), eb 20 k (by decide), e19 k, eb 97 k (by decide), eb 95 k (by decide), eb 96 k (by decide), eb 21 k (by decide), eb 22 k (by decide)]
    refine ⟨p1, p2, p3, ?_⟩
    rcases p4 with ⟨y1, y2, y3⟩ | y | y
    · refine Or.inl ⟨y1, y2, y3.low ?_ ?_ ?_ ?_ ?_⟩
      · exact o 79 k (decide_eq_false (by omega)) (decide_eq_false (by omega))
      · exact fun x i x0 x1 i0 i1 => o x _ (decide_eq_false (by omega)) (decide_eq_false (by omega))
      · exact fun p q0 q1 => o 84 _ (decide_eq_false (by omega)) (decide_eq_false (by omega))
      · rw [km.2.1, kx.2.1]; exact Int.le_refl _
      · intro bb w0 w1
        obtain ⟨_, _, pl', _, _, Bo, _⟩ := y3
        have lo := Bo.1.1
        exact ⟨(km.2.2.1 bb).trans (kx.2.2.1 bb), (km.2.2.2 bb).trans (kx.2.2.2 bb), fun i => (km.1 bb i (decide_eq_false (by omega))).trans (kx.1 bb i (decide_eq_false (by omega)))⟩
    · exact Or.inr (Or.inl y)
    · exact Or.inr (Or.inr y)
  · rw [e19 k, eb 20 k (by decide), eb 23 k (by decide)]
    exact c k k0 k1

