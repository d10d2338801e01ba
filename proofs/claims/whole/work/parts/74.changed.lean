/-! CHANGE, both sides alike -/
theorem pfF_congr {h h' : PH} (K : Keep bkB h h') (k s t z v : Int) : pfF h' k s t z v = pfF h k s t z v := by
  funext e
  unfold pfF
  congr 1
  funext j
  exact propext (Us_congr K k s t z _ j)
theorem read2_congr {h h' : PH} (K : Keep bkB h h') (ko kh k : Int) : read2 h' ko kh k ↔ read2 h ko kh k := by
  unfold read2 isFl
  rw [UndR_congr K, nw_congr K, K.1 18 5 rfl, K.1 94 k rfl, K.1 98 k rfl, K.1 20 k rfl, K.1 21 k rfl, K.1 22 k rfl]
theorem tot_congr {h h' : PH} (K : Keep bkB h h') (ko kh : Int) : ∀ (c : Nat) (k : Int), tot h' ko kh c k = tot h ko kh c k
  | 0, _ => rfl
  | c + 1, k => by
    have ih := tot_congr K ko kh c (k + 1)
    by_cases r : read2 h ko kh k
    · rw [tot_yes r, tot_yes ((read2_congr K ko kh k).2 r), ih]
      unfold gk
      rw [pfF_congr K, zh_congr K, K.1 20 k rfl, K.1 21 k rfl, K.1 22 k rfl]
    · rw [tot_no r, tot_no (fun y => r ((read2_congr K ko kh k).1 y)), ih]
theorem ChgR.same {C : List P4} {m r r' : Int} {l l' : List Int} (x : ChgR C m r l) (y : ChgR C m r' l') : r = r' ∧ (r ≠ -1 → l = l' ∧ 0 ≤ r ∧ r ≤ 4 ∧ (l.length : Int) = r) := by
  rcases x with ⟨n, a, b, c, e⟩ | ⟨a, e⟩
  · rcases y with ⟨n', a', b', c', e'⟩ | ⟨a', e'⟩
    · have nn : n = n' := by
        by_cases lt : n < n'
        · have z := e' n lt
          rw [c] at z; cases z
        · by_cases gt : n' < n
          · have z := e n' gt
            rw [c'] at z; cases z
          · omega
      subst nn
      rw [c] at c'
      cases c'
      exact ⟨by omega, fun _ => ⟨rfl, by omega, by omega, by rw [(fnd_some c).1]; omega⟩⟩
    · have z := e' n b
      rw [c] at z; cases z
  · rcases y with ⟨n', a', b', c', e'⟩ | ⟨a', e'⟩
    · have z := e n' b'
      rw [c'] at z; cases z
    · exact ⟨by omega, fun z => absurd a z⟩
def ChI (h : PH) : Prop := (0 ≤ gv h 66 87 ∧ gv h 66 87 ≤ 4) ∧ gv h 59 6 = gv h 66 87 ∧ ∀ i, 0 ≤ i → i < gv h 66 87 → gv h 62 i = gv h 127 i
theorem ChI.kp {h h' : PH} (M : ChI h) (e : ∀ a i, (a = 66 ∧ i = 87) ∨ (a = 59 ∧ i = 6) ∨ a = 62 ∨ a = 127 → gv h' a i = gv h a i) : ChI h' := by
  unfold ChI
  rw [e 66 87 (Or.inl ⟨rfl, rfl⟩), e 59 6 (Or.inr (Or.inl ⟨rfl, rfl⟩))]
  exact ⟨M.1, M.2.1, fun i i0 i1 => by rw [e 62 i (Or.inr (Or.inr (Or.inl rfl))), e 127 i (Or.inr (Or.inr (Or.inr rfl)))]; exact M.2.2 i i0 i1⟩
theorem change_same {h h1 h2 : PH} {n r r' : Int} (T : ChI h) (k1 : Keep fcA h h1) (x : ChgX h n r h1) (k2 : Keep mchA h1 h2) (m : ChgM h1 n r' h2) : r = r' ∧ ChI h2 := by
  have kB := k1.wide fcA_bkB
  have e5 : gv h1 18 5 = gv h 18 5 := k1.1 18 5 rfl
  obtain ⟨t1, t2, t3⟩ := T
  have g87 : gv h1 66 87 = gv h 66 87 := k1.1 66 87 rfl
  have g127 : ∀ i, gv h1 127 i = gv h 127 i := fun i => k1.1 127 i rfl
  have f6 : gv h2 59 6 = gv h1 59 6 := k2.1 59 6 rfl
  have f62 : ∀ i, gv h2 62 i = gv h1 62 i := fun i => k2.1 62 i rfl
  have old : gv h1 59 6 = gv h 59 6 → (∀ i, gv h1 62 i = gv h 62 i) → gv h2 66 87 = gv h1 66 87 → (∀ i, gv h2 127 i = gv h1 127 i) → ChI h2 := fun a b c e => by
    unfold ChI
    rw [c, g87, f6, a]
    exact ⟨t1, t2, fun i i0 i1 => by rw [f62, b, e, g127]; exact t3 i i0 i1⟩
  have em : msz h1 (kb h1) = msz h (kb h) := by
    unfold msz
    rw [kb_congr kB, (bk_congr kB (kb h)).2.2.2.2.2]
  unfold ChgM at m
  rw [em, tot_congr kB, kb_congr kB, bkAt_congr kB, e5] at m
  rcases x with ⟨x1, x2, x3, x4⟩ | ⟨x1, l, x2, x3⟩
  · rcases m with ⟨m1, m2, m3, m4⟩ | ⟨m1, _⟩
    · exact ⟨by omega, old x3 x4 m3 m4⟩
    · exact absurd m1 x1
  · rcases m with ⟨m1, _⟩ | ⟨m1, l', m2, m3⟩
    · exact absurd x1 m1
    · obtain ⟨s1, s2⟩ := x2.same m2
      refine ⟨s1, ?_⟩
      rcases x3 with ⟨a, b, c⟩ | ⟨a, b, c⟩
      · rcases m3 with ⟨a', b', c'⟩ | ⟨a', b', c'⟩
        · exact old b c b' c'
        · exact absurd (s1.symm.trans a) a'
      · rcases m3 with ⟨a', b', c'⟩ | ⟨a', b', c'⟩
        · exact absurd (s1.trans a') a
        · obtain ⟨s3, s4, s5, s6⟩ := s2 a
          subst s3
          unfold ChI
          rw [f6, b, b']
          refine ⟨by omega, s1, fun i i0 i1 => ?_⟩
          have hg : l[i.toNat]? = some (l[i.toNat]'(by omega)) := List.getElem?_eq_getElem (by omega)
          have y1 := c _ _ hg
          have y2 := c' _ _ hg
          rw [Int.toNat_of_nonneg i0] at y1 y2
          rw [f62, y1, y2]
/-- sense k of the change last found -/
def ChdR (h : PH) (k r : Int) : Prop := r = if 0 ≤ k ∧ k < gv h 66 87 then gv h 127 k else -1
theorem x_changed {d : Nat} {h : PH} {q : PQ} (S : Shape h) (T : ChI h) (k : Int) (K : ∀ r, ChdR h k r → q (some (.inl r)) h) : Wp (d + 1) 0 0 M_X11_changed 0 [some (.inr (.inr 2)), some (.inl k)] [] h q := by
  obtain ⟨t1, t2, t3⟩ := T
  unfold ChdR at K
  refine p_iload 1 rfl rfl rfl ?_
  refine p_if_lt 4 39 rfl rfl rfl (fun c1 => ?_) (fun c1 => ?_)
  · skip
    refine p_const 40 rfl rfl ?_
    refine p_iret rfl rfl ?_
    -- leaf 1: answer [.inl (-1)] h=h 
    first | (exfalso; omega) | exact K _ (by rw [if_neg (by omega)]) | exact K _ (by rw [if_pos (by omega)]; exact t3 k (by omega) (by omega))
  · skip
    refine p_iload 5 rfl rfl rfl ?_
    refine p_aload 6 rfl rfl rfl ?_
    refine p_getfr (j := 7) (z := 59) 9 rfl rfl rfl (tg_2 S) rfl (fi_2_7 S) ?_
    refine p_getfi (j := 6) (z := gv h 59 6) 12 rfl rfl rfl (tg_59 S) rfl rfl ?_
    refine p_ic_ge 15 39 rfl rfl rfl (fun c2 => ?_) (fun c2 => ?_)
    · skip
      refine p_const 40 rfl rfl ?_
      refine p_iret rfl rfl ?_
      -- leaf 2: answer [.inl (-1)] h=h 
      first | (exfalso; omega) | exact K _ (by rw [if_neg (by omega)]) | exact K _ (by rw [if_pos (by omega)]; exact t3 k (by omega) (by omega))
    · skip
      refine p_iload 16 rfl rfl rfl ?_
      refine p_aload 17 rfl rfl rfl ?_
      refine p_getfr (j := 7) (z := 59) 20 rfl rfl rfl (tg_2 S) rfl (fi_2_7 S) ?_
      refine p_getfr (j := 5) (z := 62) 23 rfl rfl rfl (tg_59 S) rfl (fi_59_5 S) ?_
      refine p_alen (w := 4) 24 rfl rfl (by rw [(tg_62 S)]; decide) (ln_62 S) ?_
      refine p_ic_ge 27 39 rfl rfl rfl (fun c3 => ?_) (fun c3 => ?_)
      · skip
        refine p_const 40 rfl rfl ?_
        refine p_iret rfl rfl ?_
        -- leaf 3: answer [.inl (-1)] h=h 
        first | (exfalso; omega) | exact K _ (by rw [if_neg (by omega)]) | exact K _ (by rw [if_pos (by omega)]; exact t3 k (by omega) (by omega))
      · skip
        refine p_aload 28 rfl rfl rfl ?_
        refine p_getfr (j := 7) (z := 59) 31 rfl rfl rfl (tg_2 S) rfl (fi_2_7 S) ?_
        refine p_getfr (j := 5) (z := 62) 34 rfl rfl rfl (tg_59 S) rfl (fi_59_5 S) ?_
        refine p_iload 35 rfl rfl rfl ?_
        refine p_iald (w := 4) (z := gv h 62 k) 36 rfl rfl (tg_62 S) (ln_62 S) (by omega) (by omega) rfl ?_
        refine p_goto 40 rfl rfl ?_
        refine p_iret rfl rfl ?_
        -- leaf 4: answer [.inl (gv h 62 k)] h=h 
        first | (exfalso; omega) | exact K _ (by rw [if_neg (by omega)]) | exact K _ (by rw [if_pos (by omega)]; exact t3 k (by omega) (by omega))
theorem m_changed {d : Nat} {h : PH} {q : PQ} (S : Shape h) (T : ChI h) (k : Int) (K : ∀ r, ChdR h k r → q (some (.inl r)) h) : Wp (d + 1) 0 0 M_X12_changed 0 [some (.inr (.inr 66)), some (.inl k)] [] h q := by
  obtain ⟨t1, t2, t3⟩ := T
  unfold ChdR at K
  refine p_iload 1 rfl rfl rfl ?_
  refine p_if_lt 4 21 rfl rfl rfl (fun c1 => ?_) (fun c1 => ?_)
  · skip
    refine p_const 22 rfl rfl ?_
    refine p_iret rfl rfl ?_
    -- leaf 1: answer [.inl (-1)] h=h 
    first | (exfalso; omega) | exact K _ (by rw [if_neg (by omega)]) | exact K _ (by rw [if_pos (by omega)])
  · skip
    refine p_iload 5 rfl rfl rfl ?_
    refine p_aload 6 rfl rfl rfl ?_
    refine p_getfi (j := 87) (z := gv h 66 87) 9 rfl rfl rfl (tg_66 S) rfl rfl ?_
    refine p_ic_ge 12 21 rfl rfl rfl (fun c2 => ?_) (fun c2 => ?_)
    · skip
      refine p_const 22 rfl rfl ?_
      refine p_iret rfl rfl ?_
      -- leaf 2: answer [.inl (-1)] h=h 
      first | (exfalso; omega) | exact K _ (by rw [if_neg (by omega)]) | exact K _ (by rw [if_pos (by omega)])
    · skip
      refine p_aload 13 rfl rfl rfl ?_
      refine p_getfr (j := 88) (z := 127) 16 rfl rfl rfl (tg_66 S) rfl (fi_66_88 S) ?_
      refine p_iload 17 rfl rfl rfl ?_
      refine p_iald (w := 4) (z := gv h 127 k) 18 rfl rfl (tg_127 S) (ln_127 S) (by omega) (by omega) rfl ?_
      refine p_goto 22 rfl rfl ?_
      refine p_iret rfl rfl ?_
      -- leaf 3: answer [.inl (gv h 127 k)] h=h 
      first | (exfalso; omega) | exact K _ (by rw [if_neg (by omega)]) | exact K _ (by rw [if_pos (by omega)])

