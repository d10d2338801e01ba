/-! HEAR AND PASS ON, the class's side -/
theorem en_dig : ∀ (p : List Int), (∀ x ∈ p, 0 ≤ x ∧ x < 40) → ∀ j : Nat, en p / 2 ^ (6 * j) % 64 = match p[j]? with | some x => x + 1 | none => 0
  | [], _, j => by show (0 : Int) / _ % 64 = _; rw [Int.zero_ediv]; rfl
  | x :: r, h, 0 => by
    have b := h x List.mem_cons_self
    show (en r * 64 + (x + 1)) / 1 % 64 = x + 1
    rw [Int.ediv_one]
    omega
  | x :: r, h, j + 1 => by
    have b := h x List.mem_cons_self
    have ih := en_dig r (fun y hy => h y (List.mem_cons_of_mem _ hy)) j
    have e : (2 : Int) ^ (6 * (j + 1)) = 64 * 2 ^ (6 * j) := by rw [show 6 * (j + 1) = 6 + 6 * j by omega, Int.pow_add]; rfl
    show (en r * 64 + (x + 1)) / 2 ^ (6 * (j + 1)) % 64 = match r[j]? with | some x => x + 1 | none => 0
    rw [e, ← Int.ediv_ediv_of_nonneg (by decide), show (en r * 64 + (x + 1)) / 64 = en r by omega]
    exact ih
theorem enc_dig {l : List Int} (ok : okl l) (c : Nat) (c1 : 1 ≤ c) : enc l / 2 ^ (6 * (c - 1)) % 64 = if c ≤ l.length then l.getD (l.length - c) 0 + 1 else 0 := by
  unfold enc
  rw [en_dig l.reverse (fun x hx => ok.2 x (List.mem_reverse.mp hx)) (c - 1)]
  by_cases z : c ≤ l.length
  · rw [if_pos z, List.getElem?_reverse (by omega), show l.length - 1 - (c - 1) = l.length - c by omega, List.getD_eq_getElem?_getD, List.getElem?_eq_getElem (by omega)]
    rfl
  · rw [if_neg z, List.getElem?_eq_none (by rw [List.length_reverse]; omega)]
def hrP (last s : Int) (D : List Int) (u : LnS) : LnS := (Lq u, Ltl u, Lal u, Lfr u, up (Lgt u) s (Lgt u s + D.length), Lga u, Lgo u, Llo u, if s = last then Lhd u ++ D else Lhd u)
theorem hrP_nil (last s : Int) (u : LnS) : hrP last s [] u = u := by
  obtain ⟨a, b, c, d, e, f, g, i, j⟩ := u
  have h1 : up e s (e s + (([] : List Int).length : Int)) = e := by
    funext x
    by_cases z : x = s
    · rw [z, up_eq]; show e s + 0 = e s; omega
    · rw [up_ne z]
  have h2 : (if s = last then j ++ [] else j) = j := by rw [List.append_nil]; split <;> rfl
  show (a, b, c, d, up e s (e s + (([] : List Int).length : Int)), f, g, i, (if s = last then j ++ [] else j)) = _
  rw [h1, h2]
theorem take_up {l : List Int} {n : Nat} (h : n < l.length) : l.take (n + 1) = l.take n ++ [l.getD n 0] := by
  rw [List.take_succ, List.getElem?_eq_getElem h, List.getD_eq_getElem?_getD, List.getElem?_eq_getElem h]; rfl
theorem snoc_get {A : List Int} {x w : Int} {j : Nat} (h : (A ++ [x])[j]? = some w) : (j < A.length ∧ A[j]? = some w) ∨ (j = A.length ∧ w = x) := by
  by_cases y : j < A.length
  · rw [List.getElem?_append_left y] at h; exact Or.inl ⟨y, h⟩
  · rw [List.getElem?_append_right (by omega)] at h
    have y0 : j = A.length := by
      apply Decidable.byContradiction
      intro y0
      rw [List.getElem?_eq_none (by show 1 ≤ j - A.length; omega)] at h
      cases h
    rw [y0, Nat.sub_self] at h
    have h : some x = some w := h
    cases h
    exact Or.inr ⟨y0, rfl⟩
theorem LX.hear {h2 h' : PH} {last s x : Int} {D : List Int} {u : LnS} (X : LX h2 last (hrP last s D u)) (e : ∀ b i, (40 ≤ b ∧ b ≤ 57) ∧ (b ≠ 54 ∨ i ≠ s) → gv h' b i = gv h2 b i) (e3 : gv h' 38 3 = gv h2 38 3) (e54 : gv h' 54 s = gv h2 54 s + 1) (hs : 0 ≤ s ∧ s ≤ last) (l9 : last ≤ 9)
    (hl : s ≠ last → gv h' 38 15 = gv h2 38 15 ∧ ∀ i, gv h' 58 i = gv h2 58 i) (hy : s = last → gv h' 38 15 = gv h2 38 15 + 1 ∧ gv h' 58 (gv h2 38 15) = x ∧ ∀ i, i ≠ gv h2 38 15 → gv h' 58 i = gv h2 58 i) : LX h' last (hrP last s (D ++ [x]) u) := by
  obtain ⟨a, b, c, f, g⟩ := X
  have f : gv h2 38 15 = ((if s = last then Lhd u ++ D else Lhd u).length : Nat) := f
  have g : ∀ (j : Nat) w, (if s = last then Lhd u ++ D else Lhd u)[j]? = some w → gv h2 58 j = w := g
  refine ⟨e3.trans a, fun i i0 i1 => ?_, fun i i0 i1 => ?_, ?_, ?_⟩
  · obtain ⟨y1, y2, y3⟩ := b i i0 i1
    exact ⟨(e 50 i (by omega)).trans y1, (e 49 i (by omega)).trans y2, fun j w hj => (e _ _ (by omega)).trans (y3 j w hj)⟩
  · obtain ⟨y1, y2, y3, y4, y5, y6, y7⟩ := c i i0 i1
    refine ⟨(e 51 i (by omega)).trans y1, fun z => (e 52 i (by omega)).trans (y2 z), (e 53 i (by omega)).trans y3, ?_, (e 55 i (by omega)).trans y5, (e 56 i (by omega)).trans y6, (e 57 i (by omega)).trans y7⟩
    have y4 : gv h2 54 i = up (Lgt u) s (Lgt u s + D.length) i := y4
    show gv h' 54 i = up (Lgt u) s (Lgt u s + (D ++ [x]).length) i
    by_cases z : i = s
    · subst z
      rw [up_eq] at y4 ⊢
      rw [e54, y4, List.length_append]
      show _ = Lgt u i + ((D.length + 1 : Nat) : Int)
      omega
    · rw [up_ne z] at y4 ⊢
      rw [e 54 i (by omega)]; exact y4
  · show gv h' 38 15 = ((if s = last then Lhd u ++ (D ++ [x]) else Lhd u).length : Nat)
    by_cases z : s = last
    · rw [if_pos z] at f ⊢
      rw [(hy z).1, f, ← List.append_assoc, List.length_append (bs := [x])]; rfl
    · rw [if_neg z] at f ⊢
      rw [(hl z).1, f]
  · show ∀ (j : Nat) w, (if s = last then Lhd u ++ (D ++ [x]) else Lhd u)[j]? = some w → gv h' 58 j = w
    by_cases z : s = last
    · rw [if_pos z] at f g ⊢
      obtain ⟨_, z1, z2⟩ := hy z
      intro j w hj
      rw [← List.append_assoc] at hj
      rcases snoc_get hj with ⟨j1, j2⟩ | ⟨j1, j2⟩
      · rw [z2 j (by omega)]; exact g j w j2
      · rw [j1, ← f, z1, j2]
    · rw [if_neg z] at g ⊢
      intro j w hj
      rw [(hl z).2]; exact g j w hj
theorem x_hear {d : Nat} {h : PH} {q : PQ} {last s t : Int} {u : LnS} (row : Int) {l : List Int} (hr : row = enc l) {h1 : PH} (S1 : Shape h1) (k1 : Keep lxA h h1) (X : LX h1 last u) (ok : okl l) (hs : 1 ≤ s ∧ s ≤ last) (l9 : last ≤ 9) (g0 : 0 ≤ Lgt u s) (g1 : Lgt u s + l.length ≤ 240) (hh : ((Lhd u).length : Int) = Lgt u last)
    (K : ∀ h', (Keep lxA h h' ∧ LX h' last (hearL last s t l u) ∧ gv h' 32 3 = l.length ∧ ∀ (j : Nat) w, l[j]? = some w → gv h' 33 j = w) → Shape h' → q none h') :
    Wp (d + 2) 0 0 M_X6_hear 0 [some (.inr (.inr 38)), some (.inl row), some (.inl s), some (.inl t), none, none] [] h1 q := by
  subst hr
  have l4 := ok.1
  have eb := enc_in ok
  have J : ∀ (c : Nat) (y : Int) (w5 : Option PV) (h2 : PH), y = 6 * (c : Int) - 6 → c ≤ 4 → Shape h2 → Keep lxA h h2 → LX h2 last (hrP last s (l.take (l.length - c)) u) → gv h2 32 3 = ((l.length - c : Nat) : Int) → (∀ (j : Nat) w, (l.take (l.length - c))[j]? = some w → gv h2 33 j = w) →
      Wp (d + 2) 0 0 M_X6_hear 11 [some (.inr (.inr 38)), some (.inl (enc l)), some (.inl s), some (.inl t), some (.inl y), w5] [] h2 q := by
    intro c
    induction c with
    | zero =>
      intro y w5 h2 hy c4 S2 k2 X2 b3 al
      rw [Nat.sub_zero, List.take_length] at X2 al
      refine p_iload 13 rfl rfl rfl ?_
      refine p_if_lt_t 98 rfl rfl (by omega) ?_
      refine p_aload 99 rfl rfl rfl ?_
      refine p_getfr (j := 11) (z := 55) 102 rfl rfl rfl (tg_38 S2) rfl (fi_38_11 S2) ?_
      refine p_iload 103 rfl rfl rfl ?_
      refine p_iload 104 rfl rfl rfl ?_
      refine p_iast (w := 10) 105 rfl rfl (by decide) (tg_55 S2) (ln_55 S2) (by omega) (by omega) ?_
      refine p_nmh (fun y1 e1 => ?_)
      have S1 : Shape y1 := by rw [e1]; exact S2.svA fa_55 _ _
      have kp1 : Keep lxA h y1 := by rw [e1]; exact k2.sv rfl _
      refine p_ret rfl rfl ?_
      -- leaf 1: answer [] h=y1 e1 kp1
      refine K _ ⟨kp1, ?_, by rw [e1, sv_ne (by decide)]; exact b3, fun j w hj => by rw [e1, sv_ne (by decide)]; exact al j w hj⟩ S1
      refine X2.chg (s := s) (fun b i z => by rw [e1, sv_off (by omega)]) (by rw [e1, sv_ne (by decide)]) (by rw [e1, sv_ne (by decide)]) (fun x hx => ⟨rfl, rfl, rfl, rfl, rfl, rfl, up_ne hx, rfl⟩) rfl (fun z => ?_) ?_ l9
      · obtain ⟨y1, y2, y3⟩ := X2.2.1 s (by omega) z
        exact ⟨by rw [e1, sv_ne (by decide)]; exact y1, by rw [e1, sv_ne (by decide)]; exact y2, fun j w hj => by rw [e1, sv_ne (by omega)]; exact y3 j w hj⟩
      · obtain ⟨y1, y2, y3, y4, y5, y6, y7⟩ := X2.2.2.1 s (by omega) hs.2
        exact ⟨by rw [e1, sv_ne (by decide)]; exact y1, fun z => by rw [e1, sv_ne (by decide)]; exact y2 z, by rw [e1, sv_ne (by decide)]; exact y3, by rw [e1, sv_ne (by decide)]; exact y4, by rw [e1, sv_eq]; exact (up_eq _ _ _).symm, by rw [e1, sv_ne (by decide)]; exact y6, by rw [e1, sv_ne (by decide)]; exact y7⟩
    | succ c ih =>
      intro y w5 h2 hy c4 S2 k2 X2 b3 al
      have dg := enc_dig ok (c + 1) (by omega)
      have ey : y.toNat = 6 * (c + 1 - 1) := by omega
      rw [← ey] at dg
      have X20 := X2
      obtain ⟨x1, x2, x3, x4, x5⟩ := X2
      obtain ⟨_, _, _, e54, _⟩ := x3 s (by omega) (by omega)
      by_cases z : c + 1 ≤ l.length
      · rw [if_pos z] at dg
        have gx : 0 ≤ l.getD (l.length - (c + 1)) 0 ∧ l.getD (l.length - (c + 1)) 0 < 40 := by
          rw [List.getD_eq_getElem?_getD, List.getElem?_eq_getElem (by omega)]
          exact ok.2 _ (List.getElem_mem _)
        generalize hx : l.getD (l.length - (c + 1)) 0 = x at gx dg
        have tk : l.take (l.length - c) = l.take (l.length - (c + 1)) ++ [x] := by
          have y := take_up (l := l) (n := l.length - (c + 1)) (by omega)
          rw [show l.length - (c + 1) + 1 = l.length - c by omega, hx] at y; exact y
        have tl : (l.take (l.length - (c + 1))).length = l.length - (c + 1) := by rw [List.length_take]; omega
        have ex : enc l / 2 ^ y.toNat % 64 - 1 = x := by omega
        have e54' : gv h2 54 s = Lgt u s + ((l.length - (c + 1) : Nat) : Int) := by
          have y : gv h2 54 s = up (Lgt u) s (Lgt u s + (l.take (l.length - (c + 1))).length) s := e54
          rw [up_eq, tl] at y; exact y
        have e15 : s = last → gv h2 38 15 = Lgt u s + ((l.length - (c + 1) : Nat) : Int) := fun z => by
          have y : gv h2 38 15 = ((if s = last then Lhd u ++ l.take (l.length - (c + 1)) else Lhd u).length : Nat) := x4
          rw [if_pos z, List.length_append, tl] at y
          rw [← z] at hh
          show _ = _
          rw [y]
          show ((_ + _ : Nat) : Int) = _
          omega
        have ids : ∀ h' : PH, gv h' 33 ((l.length - (c + 1) : Nat) : Int) = x → (∀ j : Nat, j ≠ l.length - (c + 1) → gv h' 33 j = gv h2 33 j) → ∀ (j : Nat) w, (l.take (l.length - c))[j]? = some w → gv h' 33 j = w := by
          intro h' f1 f2 j w hj
          rw [tk] at hj
          rcases snoc_get hj with ⟨j1, j2⟩ | ⟨j1, j2⟩
          · rw [f2 j (by omega)]; exact al j w j2
          · rw [j1, tl, f1, j2]
        refine p_iload 13 rfl rfl rfl ?_
        refine p_if_lt_f 16 rfl rfl (by omega) ?_
        refine p_iload 17 rfl rfl rfl ?_
        refine p_iload 19 rfl rfl rfl ?_
        refine p_ishr (z := (enc l) / 2 ^ (y).toNat) 20 rfl rfl (by omega) (by omega) rfl ?_
        refine p_const 22 rfl rfl ?_
        refine p_iand (z := ((enc l) / 2 ^ (y).toNat) % 64) 23 rfl rfl (mask32 6 rfl (by decide)) ?_
        refine p_const 24 rfl rfl ?_
        refine p_isub (z := (((enc l) / 2 ^ (y).toNat) % 64) - 1) 25 rfl rfl (w32_id ⟨(by omega), (by omega)⟩) ?_
        refine p_istore (ls' := [some (.inr (.inr 38)), some (.inl (enc l)), some (.inl s), some (.inl t), some (.inl y), some (.inl ((((enc l) / 2 ^ (y).toNat) % 64) - 1))]) 27 rfl rfl (Nat.le_of_ble_eq_true rfl) rfl ?_
        refine p_iload 29 rfl rfl rfl ?_
        refine p_if_lt_f 32 rfl rfl (by omega) ?_
        refine p_aload 33 rfl rfl rfl ?_
        refine p_getfr (j := 2) (z := 32) 36 rfl rfl rfl (tg_38 S2) rfl (fi_38_2 S2) ?_
        refine p_iload 38 rfl rfl rfl ?_
        refine p_callv (le := [some (.inr (.inr 32)), some (.inl ((((enc l) / 2 ^ (y).toNat) % 64) - 1))]) (as := [.inr (.inr 32), .inl ((((enc l) / 2 ^ (y).toNat) % 64) - 1)]) (rest := []) 41 0 0 0 0 rfl rfl (Nat.le_of_ble_eq_true rfl) rfl (Nat.le_of_ble_eq_true rfl) rfl rfl (Nat.le_of_ble_eq_true rfl) rfl (Nat.le_of_ble_eq_true rfl) rfl (Nat.le_refl _) (Nat.le_refl _) rfl rfl (tg_32 S2) ?_
        refine p_aload 1 rfl rfl rfl ?_
        refine p_getfi (j := 3) (z := ((l.length - (c + 1) : Nat) : Int)) 4 rfl rfl rfl (tg_32 S2) rfl b3 ?_
        refine p_aload 5 rfl rfl rfl ?_
        refine p_getfr (j := 2) (z := 33) 8 rfl rfl rfl (tg_32 S2) rfl (fi_32_2 S2) ?_
        refine p_alen (w := 12) 9 rfl rfl (by rw [(tg_33 S2)]; decide) (ln_33 S2) ?_
        refine p_ic_ge_f 12 rfl rfl (by omega) ?_
        refine p_aload 13 rfl rfl rfl ?_
        refine p_getfr (j := 2) (z := 33) 16 rfl rfl rfl (tg_32 S2) rfl (fi_32_2 S2) ?_
        refine p_aload 17 rfl rfl rfl ?_
        refine p_getfi (j := 3) (z := ((l.length - (c + 1) : Nat) : Int)) 20 rfl rfl rfl (tg_32 S2) rfl b3 ?_
        refine p_iload 21 rfl rfl rfl ?_
        refine p_iast (w := 12) 22 rfl rfl (by decide) (tg_33 S2) (ln_33 S2) (by omega) (by omega) ?_
        refine p_nmh (fun y1 e1 => ?_)
        have S1 : Shape y1 := by rw [e1]; exact S2.svA fa_33 _ _
        have kp1 : Keep lxA h y1 := by rw [e1]; exact k2.sv rfl _
        refine p_aload 23 rfl rfl rfl ?_
        refine p_dup 24 rfl rfl nl_r ?_
        refine p_getfi (j := 3) (z := ((l.length - (c + 1) : Nat) : Int)) 27 rfl rfl rfl (tg_32 S1) rfl (by rw [e1, sv_ne (by decide)]; exact b3) ?_
        refine p_const 28 rfl rfl ?_
        refine p_iadd (z := ((l.length - (c + 1) : Nat) : Int) + 1) 29 rfl rfl (w32_id ⟨(by omega), (by omega)⟩) ?_
        refine p_putfi (j := 3) 32 rfl rfl rfl (fun z => absurd z (by decide)) (tg_32 S1) rfl ?_
        refine p_nmh (fun y2 e2 => ?_)
        have S2 : Shape y2 := by rw [e2]; exact S1.svF ff_32_3 _
        have kp2 : Keep lxA h y2 := by rw [e2]; exact kp1.sv rfl _
        refine p_ret rfl rfl ?_
        show Wp (d + 2) 0 0 M_X6_hear 41 [some (.inr (.inr 38)), some (.inl (enc l)), some (.inl s), some (.inl t), some (.inl y), some (.inl ((((enc l) / 2 ^ (y).toNat) % 64) - 1))] [] y2 _
        refine p_aload 42 rfl rfl rfl ?_
        refine p_getfr (j := 10) (z := 54) 45 rfl rfl rfl (tg_38 S2) rfl (fi_38_10 S2) ?_
        refine p_iload 46 rfl rfl rfl ?_
        refine p_dup2 47 rfl rfl nl_i nl_r ?_
        refine p_iald (w := 10) (z := gv h2 54 s) 48 rfl rfl (tg_54 S2) (ln_54 S2) (by omega) (by omega) (by rw [e2, sv_ne (by decide)]; rw [e1, sv_ne (by decide)]) ?_
        refine p_const 49 rfl rfl ?_
        refine p_iadd (z := (gv h2 54 s) + 1) 50 rfl rfl (w32_id ⟨(by omega), (by omega)⟩) ?_
        refine p_iast (w := 10) 51 rfl rfl (by decide) (tg_54 S2) (ln_54 S2) (by omega) (by omega) ?_
        refine p_nmh (fun y3 e3 => ?_)
        have S3 : Shape y3 := by rw [e3]; exact S2.svA fa_54 _ _
        have kp3 : Keep lxA h y3 := by rw [e3]; exact kp2.sv rfl _
        refine p_iload 52 rfl rfl rfl ?_
        refine p_aload 53 rfl rfl rfl ?_
        refine p_getfi (j := 3) (z := last) 56 rfl rfl rfl (tg_38 S3) rfl (by rw [e3, sv_ne (by decide)]; rw [e2, sv_ne (by decide)]; rw [e1, sv_ne (by decide)]; exact x1) ?_
        refine p_ic_ne 59 92 rfl rfl rfl (fun c4 => ?_) (fun c4 => ?_)
        · skip
          refine p_iinc (y := y - 6) (ls' := [some (.inr (.inr 38)), some (.inl (enc l)), some (.inl s), some (.inl t), some (.inl (y - 6)), some (.inl ((((enc l) / 2 ^ (y).toNat) % 64) - 1))]) 95 rfl rfl rfl (wsub_id ⟨(by omega), (by omega)⟩) rfl ?_
          refine p_goto 11 rfl rfl ?_
          -- leaf 1: loop 11 [some (.inr (.inr 38)), some (.inl (enc l)), some (.inl s), some (.inl t), some (.inl (y - 6)), some (.inl ((((enc l) / 2 ^ (y).toNat) % 64) - 1))] st=[] h=y3 e3,e2,e1 kp3
          rw [ex] at e1
          refine ih (y - 6) _ _ (by omega) (by omega) S3 kp3 ?_ ?_ (ids _ ?_ (fun j hj => ?_))
          · rw [tk]
            refine X20.hear (fun b i z => ?_) ?_ ?_ ⟨by omega, hs.2⟩ l9 (fun _ => ⟨?_, fun i => ?_⟩) (fun z => absurd z (by assumption))
            · rw [e3, sv_off (by omega), e2, sv_ne (by omega), e1, sv_ne (by omega)]
            · rw [e3, sv_ne (by decide), e2, sv_ne (by decide), e1, sv_ne (by decide)]
            · rw [e3, sv_eq]
            · rw [e3, sv_ne (by decide), e2, sv_ne (by decide), e1, sv_ne (by decide)]
            · rw [e3, sv_ne (by decide), e2, sv_ne (by decide), e1, sv_ne (by decide)]
          · rw [e3, sv_ne (by decide), e2, sv_eq]; omega
          · rw [e3, sv_ne (by decide), e2, sv_ne (by decide), e1, sv_eq]
          · rw [e3, sv_ne (by decide), e2, sv_ne (by decide), e1, sv_nf (by omega)]
        · skip
          have e15' := e15 (by omega)
          refine p_aload 60 rfl rfl rfl ?_
          refine p_getfi (j := 15) (z := gv h2 38 15) 63 rfl rfl rfl (tg_38 S3) rfl (by rw [e3, sv_ne (by decide)]; rw [e2, sv_ne (by decide)]; rw [e1, sv_ne (by decide)]) ?_
          refine p_aload 64 rfl rfl rfl ?_
          refine p_getfr (j := 14) (z := 58) 67 rfl rfl rfl (tg_38 S3) rfl (fi_38_14 S3) ?_
          refine p_alen (w := 240) 68 rfl rfl (by rw [(tg_58 S3)]; decide) (ln_58 S3) ?_
          refine p_ic_ge_f 71 rfl rfl (by omega) ?_
          refine p_aload 72 rfl rfl rfl ?_
          refine p_getfr (j := 14) (z := 58) 75 rfl rfl rfl (tg_38 S3) rfl (fi_38_14 S3) ?_
          refine p_aload 76 rfl rfl rfl ?_
          refine p_getfi (j := 15) (z := gv h2 38 15) 79 rfl rfl rfl (tg_38 S3) rfl (by rw [e3, sv_ne (by decide)]; rw [e2, sv_ne (by decide)]; rw [e1, sv_ne (by decide)]) ?_
          refine p_iload 81 rfl rfl rfl ?_
          refine p_iast (w := 240) 82 rfl rfl (by decide) (tg_58 S3) (ln_58 S3) (by omega) (by omega) ?_
          refine p_nmh (fun y5 e5 => ?_)
          have S5 : Shape y5 := by rw [e5]; exact S3.svA fa_58 _ _
          have kp5 : Keep lxA h y5 := by rw [e5]; exact kp3.sv rfl _
          refine p_aload 83 rfl rfl rfl ?_
          refine p_dup 84 rfl rfl nl_r ?_
          refine p_getfi (j := 15) (z := gv h2 38 15) 87 rfl rfl rfl (tg_38 S5) rfl (by rw [e5, sv_ne (by decide)]; rw [e3, sv_ne (by decide)]; rw [e2, sv_ne (by decide)]; rw [e1, sv_ne (by decide)]) ?_
          refine p_const 88 rfl rfl ?_
          refine p_iadd (z := (gv h2 38 15) + 1) 89 rfl rfl (w32_id ⟨(by omega), (by omega)⟩) ?_
          refine p_putfi (j := 15) 92 rfl rfl rfl (fun z => absurd z (by decide)) (tg_38 S5) rfl ?_
          refine p_nmh (fun y6 e6 => ?_)
          have S6 : Shape y6 := by rw [e6]; exact S5.svF ff_38_15 _
          have kp6 : Keep lxA h y6 := by rw [e6]; exact kp5.sv rfl _
          refine p_iinc (y := y - 6) (ls' := [some (.inr (.inr 38)), some (.inl (enc l)), some (.inl s), some (.inl t), some (.inl (y - 6)), some (.inl ((((enc l) / 2 ^ (y).toNat) % 64) - 1))]) 95 rfl rfl rfl (wsub_id ⟨(by omega), (by omega)⟩) rfl ?_
          refine p_goto 11 rfl rfl ?_
          -- leaf 2: loop 11 [some (.inr (.inr 38)), some (.inl (enc l)), some (.inl s), some (.inl t), some (.inl (y - 6)), some (.inl ((((enc l) / 2 ^ (y).toNat) % 64) - 1))] st=[] h=y6 e6,e5,e3,e2,e1 kp6
          rw [ex] at e1 e5
          refine ih (y - 6) _ _ (by omega) (by omega) S6 kp6 ?_ ?_ (ids _ ?_ (fun j hj => ?_))
          · rw [tk]
            refine X20.hear (fun b i z => ?_) ?_ ?_ ⟨by omega, hs.2⟩ l9 (fun z => absurd (show s = last by omega) z) (fun _ => ⟨?_, ?_, fun i hi => ?_⟩)
            · rw [e6, sv_ne (by omega), e5, sv_ne (by omega), e3, sv_off (by omega), e2, sv_ne (by omega), e1, sv_ne (by omega)]
            · rw [e6, sv_nf (by decide), e5, sv_ne (by decide), e3, sv_ne (by decide), e2, sv_ne (by decide), e1, sv_ne (by decide)]
            · rw [e6, sv_ne (by decide), e5, sv_ne (by decide), e3, sv_eq]
            · rw [e6, sv_eq]
            · rw [e6, sv_ne (by decide), e5, sv_eq]
            · rw [e6, sv_ne (by decide), e5, sv_nf hi, e3, sv_ne (by decide), e2, sv_ne (by decide), e1, sv_ne (by decide)]
          · rw [e6, sv_ne (by decide), e5, sv_ne (by decide), e3, sv_ne (by decide), e2, sv_eq]; omega
          · rw [e6, sv_ne (by decide), e5, sv_ne (by decide), e3, sv_ne (by decide), e2, sv_ne (by decide), e1, sv_eq]
          · rw [e6, sv_ne (by decide), e5, sv_ne (by decide), e3, sv_ne (by decide), e2, sv_ne (by decide), e1, sv_nf (by omega)]
      · rw [if_neg z] at dg
        have ec : l.length - (c + 1) = l.length - c := by omega
        rw [ec] at X20 b3 al
        refine p_iload 13 rfl rfl rfl ?_
        refine p_if_lt_f 16 rfl rfl (by omega) ?_
        refine p_iload 17 rfl rfl rfl ?_
        refine p_iload 19 rfl rfl rfl ?_
        refine p_ishr (z := (enc l) / 2 ^ (y).toNat) 20 rfl rfl (by omega) (by omega) rfl ?_
        refine p_const 22 rfl rfl ?_
        refine p_iand (z := ((enc l) / 2 ^ (y).toNat) % 64) 23 rfl rfl (mask32 6 rfl (by decide)) ?_
        refine p_const 24 rfl rfl ?_
        refine p_isub (z := (((enc l) / 2 ^ (y).toNat) % 64) - 1) 25 rfl rfl (w32_id ⟨(by omega), (by omega)⟩) ?_
        refine p_istore (ls' := [some (.inr (.inr 38)), some (.inl (enc l)), some (.inl s), some (.inl t), some (.inl y), some (.inl ((((enc l) / 2 ^ (y).toNat) % 64) - 1))]) 27 rfl rfl (Nat.le_of_ble_eq_true rfl) rfl ?_
        refine p_iload 29 rfl rfl rfl ?_
        refine p_if_lt_t 92 rfl rfl (by omega) ?_
        refine p_iinc (y := y - 6) (ls' := [some (.inr (.inr 38)), some (.inl (enc l)), some (.inl s), some (.inl t), some (.inl (y - 6)), some (.inl ((((enc l) / 2 ^ (y).toNat) % 64) - 1))]) 95 rfl rfl rfl (wsub_id ⟨(by omega), (by omega)⟩) rfl ?_
        refine p_goto 11 rfl rfl ?_
        -- leaf 1: loop 11 [some (.inr (.inr 38)), some (.inl (enc l)), some (.inl s), some (.inl t), some (.inl (y - 6)), some (.inl ((((enc l) / 2 ^ (y).toNat) % 64) - 1))] st=[] h=h2  k2
        exact ih (y - 6) _ h2 (by omega) (by omega) S2 k2 X20 b3 al
  refine p_aload 1 rfl rfl rfl ?_
  refine p_getfr (j := 2) (z := 32) 4 rfl rfl rfl (tg_38 S1) rfl (fi_38_2 S1) ?_
  refine p_callv (le := [some (.inr (.inr 32))]) (as := [.inr (.inr 32)]) (rest := []) 7 0 0 0 0 rfl rfl (Nat.le_of_ble_eq_true rfl) rfl (Nat.le_of_ble_eq_true rfl) rfl rfl (Nat.le_of_ble_eq_true rfl) rfl (Nat.le_of_ble_eq_true rfl) rfl (Nat.le_refl _) (Nat.le_refl _) rfl rfl (tg_32 S1) ?_
  refine p_aload 1 rfl rfl rfl ?_
  refine p_const 2 rfl rfl ?_
  refine p_putfi (j := 3) 5 rfl rfl rfl (fun z => absurd z (by decide)) (tg_32 S1) rfl ?_
  refine p_nmh (fun y1 e1 => ?_)
  have S1 : Shape y1 := by rw [e1]; exact S1.svF ff_32_3 _
  have kp1 : Keep lxA h y1 := by rw [e1]; exact k1.sv rfl _
  refine p_ret rfl rfl ?_
  show Wp (d + 2) 0 0 M_X6_hear 7 [some (.inr (.inr 38)), some (.inl (enc l)), some (.inl s), some (.inl t), none, none] [] y1 _
  refine p_const 9 rfl rfl ?_
  refine p_istore (ls' := [some (.inr (.inr 38)), some (.inl (enc l)), some (.inl s), some (.inl t), some (.inl 18), none]) 11 rfl rfl (Nat.le_of_ble_eq_true rfl) rfl ?_
  -- leaf 1: loop 11 [some (.inr (.inr 38)), some (.inl (enc l)), some (.inl s), some (.inl t), some (.inl 18), none] st=[] h=y1 e1 kp1
  have e0 : l.length - 4 = 0 := by omega
  refine J 4 18 _ _ (by decide) (by decide) S1 kp1 ?_ (by rw [e1, sv_eq, e0]; rfl) (fun j w hj => by rw [e0, List.take_zero] at hj; cases hj)
  rw [e0, List.take_zero, hrP_nil]
  exact X.kp (fun b i z => by rw [e1, sv_ne (by omega)]) l9
theorem x_relayOn {d : Nat} {h : PH} {q : PQ} {a k last s t : Int} {v : LnS} {l : List Int} {h1 : PH} (R : BkR h a k) (F : FI h) (S1 : Shape h1) (k1 : Keep lxA h h1) (X : LX h1 last v) (hs : 1 ≤ s ∧ s ≤ last) (l9 : last ≤ 9) (ht : 0 ≤ t ∧ t < 1000) (l1 : 1 ≤ l.length) (l4 : l.length ≤ 4) (hl : gv h1 32 3 = l.length) (hi : ∀ (j : Nat) w, l[j]? = some w → gv h1 33 j = w) (hT : 0 ≤ Ltl v s ∧ Ltl v s + l.length ≤ 240) (hL : ((Lq v s).length : Int) ≤ Ltl v s)
    (K : ∀ h', (Keep lxA h h' ∧ LX h' last (passL h k last s t l v)) → Shape h' → q none h') :
    Wp (d + 17) 0 0 M_X6_relayOn 0 [some (.inr (.inr 38)), some (.inr (.inr a)), some (.inl s), some (.inl t)] [] h1 q := by
  have X0 := X
  obtain ⟨X1, X2, X3, X4, X5⟩ := X
  obtain ⟨e51, e52, e53, e54, e55, e56, e57⟩ := X3 s (by omega) hs.2
  have kB := k1.wide lxA_bkB
  have out : ¬ (s < last ∧ Llo v s = 0) → q none h1 := fun n => K h1 ⟨k1, by unfold passL; rw [if_neg n]; exact X0⟩ S1
  have ids : ∀ i, 0 ≤ i → i < (l.length : Int) → gv h1 33 i = l.getD i.toNat 0 := fun i i0 i1 => by
    have y := hi i.toNat _ (List.getElem?_eq_getElem (by omega))
    rw [Int.toNat_of_nonneg i0] at y
    rw [y, List.getD_eq_getElem?_getD, List.getElem?_eq_getElem (by omega)]; rfl
  refine p_iload 1 rfl rfl rfl ?_
  refine p_aload 2 rfl rfl rfl ?_
  refine p_getfi (j := 3) (z := last) 5 rfl rfl rfl (tg_38 S1) rfl X1 ?_
  refine p_ic_ge 8 26 rfl rfl rfl (fun c1 => ?_) (fun c1 => ?_)
  · skip
    refine p_ret rfl rfl ?_
    -- leaf 1: answer [] h=h1 
    exact out (fun y => by omega)
  · skip
    refine p_iload 9 rfl rfl rfl ?_
    refine p_aload 10 rfl rfl rfl ?_
    refine p_getfr (j := 4) (z := 39) 13 rfl rfl rfl (tg_38 S1) rfl (fi_38_4 S1) ?_
    refine p_alen (w := 9) 14 rfl rfl (by rw [(tg_39 S1)]; decide) (ln_39 S1) ?_
    refine p_ic_ge_f 17 rfl rfl (by omega) ?_
    refine p_aload 18 rfl rfl rfl ?_
    refine p_getfr (j := 9) (z := 53) 21 rfl rfl rfl (tg_38 S1) rfl (fi_38_9 S1) ?_
    refine p_iload 22 rfl rfl rfl ?_
    refine p_bald (w := 10) (z := (Llo v s)) 23 rfl rfl (Or.inr (tg_53 S1)) (ln_53 S1) (by omega) (by omega) e53 ?_
    refine p_if_eq 26 27 rfl rfl rfl (fun c2 => ?_) (fun c2 => ?_)
    · skip
      obtain ⟨q1, q2, q3⟩ := X2 s (by omega) (by omega)
      refine p_aload 28 rfl rfl rfl ?_
      refine p_getfr (j := 2) (z := 32) 31 rfl rfl rfl (tg_38 S1) rfl (fi_38_2 S1) ?_
      refine p_aload 32 rfl rfl rfl ?_
      refine p_iload 33 rfl rfl rfl ?_
      refine p_iload 34 rfl rfl rfl ?_
      refine p_callv (le := [some (.inr (.inr 32)), some (.inr (.inr a)), some (.inl s), some (.inl t), none]) (as := [.inr (.inr 32), .inr (.inr a), .inl s, .inl t]) (rest := []) 37 0 0 0 0 rfl rfl (Nat.le_of_ble_eq_true rfl) rfl (Nat.le_of_ble_eq_true rfl) rfl rfl (Nat.le_of_ble_eq_true rfl) rfl (Nat.le_of_ble_eq_true rfl) rfl (Nat.le_refl _) (Nat.le_refl _) rfl rfl (tg_32 S1) ?_
      refine x_plan S1 a s t (R.kp kB) (F.kp kB) (by omega) ht hl (by omega) (by omega) (fun r3 y3 p3 S3 => ?_)
      show Wp (d + 17) 0 0 M_X6_relayOn 37 [some (.inr (.inr 38)), some (.inr (.inr a)), some (.inl s), some (.inl t)] [.inl r3] y3 _
      have EB : bstF h1 k s t (zh h1 t) (fun i => gv h1 33 i) l.length (l.length : Int).toNat = lB h k s t l := by
        rw [zh_congr kB, bstF_congr kB, Int.toNat_natCast]; exact bstF_ids ids _ (by omega)
      obtain ⟨kpl, ce, er⟩ := p3
      rw [EB] at ce er
      have ok := lB_ok (s := s) (t := t) (l := l) R
      have hn2 : gv y3 32 3 = l.length := (kpl.1 32 3 rfl).trans hl
      have o3 : ∀ b i, 38 ≤ b → gv y3 b i = gv h1 b i := fun b i hb => kpl.1 b i (decide_eq_false (by omega))
      have f50 : gv y3 50 s = Ltl v s := (o3 50 s (by omega)).trans q1
      refine p_const 38 rfl rfl ?_
      refine p_ic_ne 41 49 rfl rfl rfl (fun c4 => ?_) (fun c4 => ?_)
      · skip
        have b0 : (lB h k s t l 0).1 < 1000 := by by_cases w : (lB h k s t l 0).1 < 1000; exact w; rw [if_neg w] at er; exact absurd er c4
        have bi := lB_in R b0
        refine p_aload 50 rfl rfl rfl ?_
        refine p_getfr (j := 6) (z := 50) 53 rfl rfl rfl (tg_38 S3) rfl (fi_38_6 S3) ?_
        refine p_iload 54 rfl rfl rfl ?_
        refine p_aload 55 rfl rfl rfl ?_
        refine p_getfr (j := 2) (z := 32) 58 rfl rfl rfl (tg_38 S3) rfl (fi_38_2 S3) ?_
        refine p_aload 59 rfl rfl rfl ?_
        refine p_getfr (j := 4) (z := 39) 62 rfl rfl rfl (tg_38 S3) rfl (fi_38_4 S3) ?_
        refine p_iload 63 rfl rfl rfl ?_
        refine p_aald (w := 9) (z := 40 + s) 64 rfl rfl (Or.inr (tg_39 S3)) (ln_39 S3) (by omega) (by omega) (S3.2.2.2 _ (by omega) (by omega)) ?_
        refine p_aload 65 rfl rfl rfl ?_
        refine p_getfr (j := 6) (z := 50) 68 rfl rfl rfl (tg_38 S3) rfl (fi_38_6 S3) ?_
        refine p_iload 69 rfl rfl rfl ?_
        refine p_iald (w := 10) (z := (Ltl v s)) 70 rfl rfl (tg_50 S3) (ln_50 S3) (by omega) (by omega) f50 ?_
        refine p_callv (le := [some (.inr (.inr 32)), some (.inr (.inr (40 + s))), some (.inl (Ltl v s)), none, none, none]) (as := [.inr (.inr 32), .inr (.inr (40 + s)), .inl (Ltl v s)]) (rest := [.inl s, .inr (.inr 50)]) 73 0 0 0 0 rfl rfl (Nat.le_of_ble_eq_true rfl) rfl (Nat.le_of_ble_eq_true rfl) rfl rfl (Nat.le_of_ble_eq_true rfl) rfl (Nat.le_of_ble_eq_true rfl) rfl (Nat.le_refl _) (Nat.le_refl _) rfl rfl (tg_32 S3) ?_
        refine x_copy S3 (40 + s) (Ltl v s) (fun h S i v => S.svA (row_fa (by omega) (by omega)) i v) (by omega) (row_tg S3 (by omega) (by omega)) (row_ln S3 (by omega) (by omega)) (by decide) ok hn2 (by omega) (by omega) ce b0 (by omega) (by omega) (fun r5 y5 p5 S5 => ?_)
        show Wp (d + 17) 0 0 M_X6_relayOn 73 [some (.inr (.inr 38)), some (.inr (.inr a)), some (.inl s), some (.inl t)] [.inl r5, .inl s, .inr (.inr 50)] y5 _
        refine p_iast (w := 10) 74 rfl rfl (by decide) (tg_50 S5) (ln_50 S5) (by omega) (by omega) ?_
        refine p_nmh (fun y6 e6 => ?_)
        have S6 : Shape y6 := by rw [e6]; exact S5.svA fa_50 _ _
        refine p_ret rfl rfl ?_
        -- leaf 2: answer [] h=y6 e6
        obtain ⟨k5, er5, o5, w5⟩ := p5
        have hlen := lH_len R b0
        refine K _ ⟨?_, ?_⟩ S6
        · rw [e6]; exact ((k1.trans (kpl.wide plA_lxA)).trans (k5.wide (fun b i z => decide_eq_false (fun y => of_decide_eq_false z (by omega))))).sv rfl _
        · unfold passL
          rw [if_pos ⟨by omega, c2⟩, if_pos b0]
          have f5 : ∀ b i, 38 ≤ b → b ≠ 40 + s → gv y5 b i = gv h1 b i := fun b i hb hn => (k5.1 b i (decide_eq_false hn)).trans (o3 b i hb)
          refine X0.chg (s := s) (fun b i z => ?_) ?_ ?_ (fun x hx => ⟨up_ne hx, up_ne hx, rfl, rfl, rfl, rfl, rfl, rfl⟩) rfl (fun _ => ?_) ?_ l9
          · rw [e6, sv_off (by omega)]; exact f5 b i (by omega) (by omega)
          · rw [e6, sv_ne (by decide)]; exact f5 38 3 (by omega) (by omega)
          · rw [e6, sv_ne (by decide)]; exact f5 38 15 (by omega) (by omega)
          · show QX _ s (up (Lq v) s (Lq v s ++ lH h k s t l) s) (up (Ltl v) s (Ltl v s + (lB h k s t l 0).1) s)
            rw [up_eq, up_eq]
            have la : ((Lq v s ++ lH h k s t l).length : Int) = (Lq v s).length + (lB h k s t l 0).1 := by rw [List.length_append, ← hlen]; rfl
            refine ⟨?_, ?_, fun j w hj => ?_⟩
            · rw [e6, sv_eq]; exact er5
            · rw [e6, sv_ne (by decide), f5 49 s (by omega) (by omega), q2, la]; omega
            · rw [e6, sv_ne (by omega), la]
              by_cases y : j < (Lq v s).length
              · rw [List.getElem?_append_left y] at hj
                rw [o5 _ (Or.inl (by omega)), o3 _ _ (by omega), show Ltl v s + (lB h k s t l 0).1 - ((Lq v s).length + (lB h k s t l 0).1) + (j : Int) = Ltl v s - (Lq v s).length + j by omega]
                exact q3 j w hj
              · rw [List.getElem?_append_right (by omega)] at hj
                have y2 := w5 (j - (Lq v s).length) w (by rw [Int.toNat_natCast]; exact hj)
                rw [show Ltl v s + (lB h k s t l 0).1 - ((Lq v s).length + (lB h k s t l 0).1) + (j : Int) = Ltl v s + ((j - (Lq v s).length : Nat) : Int) by omega]
                exact y2
          · exact ⟨by rw [e6, sv_ne (by decide), f5 51 s (by omega) (by omega)]; exact e51, fun z => by rw [e6, sv_ne (by decide), f5 52 s (by omega) (by omega)]; exact e52 z, by rw [e6, sv_ne (by decide), f5 53 s (by omega) (by omega)]; exact e53, by rw [e6, sv_ne (by decide), f5 54 s (by omega) (by omega)]; exact e54, by rw [e6, sv_ne (by decide), f5 55 s (by omega) (by omega)]; exact e55, by rw [e6, sv_ne (by decide), f5 56 s (by omega) (by omega)]; exact e56, by rw [e6, sv_ne (by decide), f5 57 s (by omega) (by omega)]; exact e57⟩
      · skip
        refine p_aload 42 rfl rfl rfl ?_
        refine p_iload 43 rfl rfl rfl ?_
        refine p_callv (le := [some (.inr (.inr 38)), some (.inl s)]) (as := [.inr (.inr 38), .inl s]) (rest := []) 46 0 0 0 0 rfl rfl (Nat.le_of_ble_eq_true rfl) rfl (Nat.le_of_ble_eq_true rfl) rfl rfl (Nat.le_of_ble_eq_true rfl) rfl (Nat.le_of_ble_eq_true rfl) rfl (Nat.le_refl _) (Nat.le_refl _) rfl rfl (tg_38 S3) ?_
        refine p_aload 1 rfl rfl rfl ?_
        refine p_getfr (j := 13) (z := 57) 4 rfl rfl rfl (tg_38 S3) rfl (fi_38_13 S3) ?_
        refine p_iload 5 rfl rfl rfl ?_
        refine p_const 6 rfl rfl ?_
        refine p_zast (w := 10) 7 rfl rfl (by decide) (tg_57 S3) (ln_57 S3) (by omega) (by omega) (by decide) ?_
        refine p_nmh (fun y7 e7 => ?_)
        have S7 : Shape y7 := by rw [e7]; exact S3.svA fa_57 _ _
        refine p_aload 8 rfl rfl rfl ?_
        refine p_getfr (j := 9) (z := 53) 11 rfl rfl rfl (tg_38 S7) rfl (fi_38_9 S7) ?_
        refine p_iload 12 rfl rfl rfl ?_
        refine p_const 13 rfl rfl ?_
        refine p_zast (w := 10) 14 rfl rfl (by decide) (tg_53 S7) (ln_53 S7) (by omega) (by omega) (by decide) ?_
        refine p_nmh (fun y8 e8 => ?_)
        have S8 : Shape y8 := by rw [e8]; exact S7.svA fa_53 _ _
        refine p_ret rfl rfl ?_
        show Wp (d + 17) 0 0 M_X6_relayOn 46 [some (.inr (.inr 38)), some (.inr (.inr a)), some (.inl s), some (.inl t)] [] y8 _
        refine p_goto 74 rfl rfl ?_
        refine p_ret rfl rfl ?_
        -- leaf 3: answer [] h=y8 e8,e7
        refine K _ ⟨?_, ?_⟩ S8
        · rw [e8, e7]; exact ((k1.trans (kpl.wide plA_lxA)).sv rfl _).sv rfl _
        · have nb : ¬ (lB h k s t l 0).1 < 1000 := fun y => by
            have bi := lB_in R y
            rw [if_pos y] at er
            omega
          unfold passL
          rw [if_pos ⟨by omega, c2⟩, if_neg nb]
          refine X0.chg (s := s) (fun b i z => ?_) ?_ ?_ (fun x hx => ⟨rfl, rfl, rfl, rfl, up_ne hx, rfl, rfl, rfl⟩) rfl (fun _ => ?_) ?_ l9
          · rw [e8, sv_off (by omega), e7, sv_off (by omega)]; exact o3 b i (by omega)
          · rw [e8, sv_ne (by decide), e7, sv_ne (by decide)]; exact o3 38 3 (by omega)
          · rw [e8, sv_ne (by decide), e7, sv_ne (by decide)]; exact o3 38 15 (by omega)
          · exact ⟨by rw [e8, sv_ne (by decide), e7, sv_ne (by decide)]; exact f50, by rw [e8, sv_ne (by decide), e7, sv_ne (by decide), o3 49 s (by omega)]; exact q2, fun j w hj => by rw [e8, sv_ne (by omega), e7, sv_ne (by omega), o3 _ _ (by omega)]; exact q3 j w hj⟩
          · show gv _ 51 s = Lal v s ∧ (Lal v s ≠ 0 → gv _ 52 s = Lfr v s) ∧ gv _ 53 s = up (Llo v) s 1 s ∧ gv _ 54 s = Lgt v s ∧ gv _ 55 s = Lga v s ∧ gv _ 56 s = Lgo v s ∧ gv _ 57 s = up (Llo v) s 1 s
            rw [up_eq]
            exact ⟨by rw [e8, sv_ne (by decide), e7, sv_ne (by decide), o3 51 s (by omega)]; exact e51, fun z => by rw [e8, sv_ne (by decide), e7, sv_ne (by decide), o3 52 s (by omega)]; exact e52 z, by rw [e8, sv_eq], by rw [e8, sv_ne (by decide), e7, sv_ne (by decide), o3 54 s (by omega)]; exact e54, by rw [e8, sv_ne (by decide), e7, sv_ne (by decide), o3 55 s (by omega)]; exact e55, by rw [e8, sv_ne (by decide), e7, sv_ne (by decide), o3 56 s (by omega)]; exact e56, by rw [e8, sv_ne (by decide), e7, sv_eq]⟩
    · skip
      refine p_ret rfl rfl ?_
      -- leaf 4: answer [] h=h1 
      exact out (fun y => by omega)

