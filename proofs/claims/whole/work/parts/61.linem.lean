/-! THE LINE, the model's side -/
def QM (h : PH) (s : Int) (q : List Int) (tl : Int) : Prop := ((q.length : Int) ≤ tl ∧ tl ≤ 240) ∧ gv h 116 s = tl ∧ gv h 117 s = tl - q.length ∧ ∀ (j : Nat) w, q[j]? = some w → gv h 115 (640 * s + (tl - q.length + j)) = w
def CEM (h : PH) (s : Int) (u : LnS) : Prop := gv h 118 s = (if Lal u s = 0 then -1 else Lal u s) ∧ (Lal u s ≠ 0 → gv h 119 s = Lfr u s) ∧ gv h 120 s = Lgt u s ∧ gv h 121 s = Lga u s ∧ gv h 122 s = Lgo u s ∧ gv h 123 s = Llo u s
def LM (h : PH) (last : Int) (u : LnS) : Prop := (gv h 66 71 = last ∧ gv h 66 70 = 1) ∧ (∀ s, 0 ≤ s → s < last → QM h s (Lq u s) (Ltl u s)) ∧ (∀ s, 0 ≤ s → s ≤ last → CEM h s u) ∧ gv h 66 81 = (Lhd u).length ∧ ∀ (j : Nat) w, (Lhd u)[j]? = some w → gv h 124 j = w
theorem get_lt {q : List Int} {j : Nat} {w : Int} (h : q[j]? = some w) : j < q.length := by
  apply Decidable.byContradiction
  intro n
  rw [List.getElem?_eq_none (by omega)] at h
  cases h
theorem LM.chg {h1 h' : PH} {last s : Int} {u v : LnS} (L : LM h1 last u) (e : ∀ b i, (116 ≤ b ∧ b ≤ 124) ∧ (i ≠ s ∨ b = 124) → gv h' b i = gv h1 b i) (eq : ∀ i, i < 640 * s ∨ 640 * s + 640 ≤ i → gv h' 115 i = gv h1 115 i) (e66 : ∀ i, 70 ≤ i → i ≤ 81 → gv h' 66 i = gv h1 66 i)
    (ev : ∀ x, x ≠ s → Lq v x = Lq u x ∧ Ltl v x = Ltl u x ∧ Lal v x = Lal u x ∧ Lfr v x = Lfr u x ∧ Llo v x = Llo u x ∧ Lgt v x = Lgt u x ∧ Lga v x = Lga u x ∧ Lgo v x = Lgo u x) (eh : Lhd v = Lhd u) (hq : s < last → QM h' s (Lq v s) (Ltl v s)) (hc : CEM h' s v) : LM h' last v := by
  obtain ⟨a, b, c, d, f⟩ := L
  refine ⟨⟨(e66 71 (by decide) (by decide)).trans a.1, (e66 70 (by decide) (by decide)).trans a.2⟩, fun x x0 x1 => ?_, fun x x0 x1 => ?_, by rw [eh]; exact (e66 81 (by decide) (by decide)).trans d, fun j w hj => ?_⟩
  · by_cases z : x = s
    · subst z; exact hq x1
    · obtain ⟨y0, y1, y2, y3⟩ := b x x0 x1
      obtain ⟨v1, v2, _⟩ := ev x z
      unfold QM
      rw [v1, v2, e 116 x (by omega), e 117 x (by omega)]
      exact ⟨y0, y1, y2, fun j w hj => by have := get_lt hj; rw [eq _ (by omega)]; exact y3 j w hj⟩
  · by_cases z : x = s
    · subst z; exact hc
    · obtain ⟨_, _, v3, v4, v5, v6, v7, v8⟩ := ev x z
      have y := c x x0 x1
      unfold CEM at y ⊢
      rw [v3, v4, v5, v6, v7, v8, e 118 x (by omega), e 119 x (by omega), e 120 x (by omega), e 121 x (by omega), e 122 x (by omega), e 123 x (by omega)]
      exact y
  · rw [e 124 _ (by omega)]; exact f j w (by rw [← eh]; exact hj)
theorem LM.kp {h1 h' : PH} {last : Int} {u : LnS} (L : LM h1 last u) (e : ∀ b i, (115 ≤ b ∧ b ≤ 124) ∨ (b = 66 ∧ 70 ≤ i ∧ i ≤ 81) → gv h' b i = gv h1 b i) : LM h' last u := by
  obtain ⟨a, b, c, d, f⟩ := L
  refine ⟨⟨(e 66 71 (by omega)).trans a.1, (e 66 70 (by omega)).trans a.2⟩, fun x x0 x1 => ?_, fun x x0 x1 => ?_, (e 66 81 (by omega)).trans d, fun j w hj => (e 124 _ (by omega)).trans (f j w hj)⟩
  · obtain ⟨y0, y1, y2, y3⟩ := b x x0 x1
    exact ⟨y0, (e 116 x (by omega)).trans y1, (e 117 x (by omega)).trans y2, fun j w hj => (e 115 _ (by omega)).trans (y3 j w hj)⟩
  · have y := c x x0 x1
    unfold CEM at y ⊢
    rw [e 118 x (by omega), e 119 x (by omega), e 120 x (by omega), e 121 x (by omega), e 122 x (by omega), e 123 x (by omega)]
    exact y
def lmA (a i : Int) : Bool := decide ((a = 66 ∧ (i = 38 ∨ i = 48 ∨ i = 49 ∨ i = 52 ∨ i = 56 ∨ i = 62 ∨ i = 70 ∨ i = 71 ∨ i = 81)) ∨ (92 ≤ a ∧ a ≤ 93) ∨ (99 ≤ a ∧ a ≤ 106) ∨ (109 ≤ a ∧ a ≤ 113) ∨ (115 ≤ a ∧ a ≤ 124))
theorem lmA_bkB : ∀ a i, bkB a i = false → lmA a i = false := fun a i => dw (by omega)
theorem mA_lmA : ∀ a i, lmA a i = false → mA a i = false := fun a i => dw (by omega)
theorem moA_lmA : ∀ a i, lmA a i = false → moA a i = false := fun a i => dw (by omega)
theorem seA_lmA : ∀ a i, lmA a i = false → seA a i = false := fun a i => dw (by omega)
theorem msA_lmA : ∀ a i, lmA a i = false → msA a i = false := fun a i => dw (by omega)
theorem tmA_lmA : ∀ a i, lmA a i = false → tmA a i = false := fun a i => dw (by omega)
theorem m_signsOf {d : Nat} {h : PH} {q : PQ} (_S : Shape h) (w : Int) (g : isHo w) (K : q (some (.inl (rl w))) h) : Wp (d + 1) 0 0 M_X12_signsOf 0 [some (.inl w)] [] h q := by
  have rp := rl_pos g.1
  have ra : rl w = if w < 32 then 1 else if w < 1024 then 2 else if w < 32768 then 3 else 4 := by
    unfold rl; (repeat' split) <;> omega
  rw [ra] at K
  refine p_iload 1 rfl rfl rfl ?_
  refine p_const 3 rfl rfl ?_
  refine p_ic_ge 6 10 rfl rfl rfl (fun c1 => ?_) (fun c1 => ?_)
  · skip
    refine p_iload 11 rfl rfl rfl ?_
    refine p_const 14 rfl rfl ?_
    refine p_ic_ge 17 21 rfl rfl rfl (fun c2 => ?_) (fun c2 => ?_)
    · skip
      refine p_iload 22 rfl rfl rfl ?_
      refine p_const 25 rfl rfl ?_
      refine p_ic_ge 28 32 rfl rfl rfl (fun c3 => ?_) (fun c3 => ?_)
      · skip
        refine p_const 33 rfl rfl ?_
        refine p_iret rfl rfl ?_
        -- leaf 1: answer [.inl 4] h=h 
        (repeat' split at K) <;> first | (exfalso; omega) | exact K
      · skip
        refine p_const 29 rfl rfl ?_
        refine p_goto 33 rfl rfl ?_
        refine p_iret rfl rfl ?_
        -- leaf 2: answer [.inl 3] h=h 
        (repeat' split at K) <;> first | (exfalso; omega) | exact K
    · skip
      refine p_const 18 rfl rfl ?_
      refine p_goto 33 rfl rfl ?_
      refine p_iret rfl rfl ?_
      -- leaf 3: answer [.inl 2] h=h 
      (repeat' split at K) <;> first | (exfalso; omega) | exact K
  · skip
    refine p_const 7 rfl rfl ?_
    refine p_goto 33 rfl rfl ?_
    refine p_iret rfl rfl ?_
    -- leaf 4: answer [.inl 1] h=h 
    (repeat' split at K) <;> first | (exfalso; omega) | exact K
theorem hz_all {h : PH} (F : FI h) : ∀ t : Nat, t ≤ 1000 → 0 ≤ hz h t ∧ hz h t ≤ 9 := fun t ht => hz_in F.hn t ht
theorem m_dimAt {d : Nat} {h : PH} {q : PQ} (S : Shape h) (s t : Int) (F : FI h) (hs : 0 ≤ s ∧ s < 9) (ht : 0 ≤ t ∧ t < 1000) (K : q (some (.inl (dmF h s t))) h) : Wp (d + 4) 0 0 M_X12_dim 0 [some (.inr (.inr 66)), some (.inl s), some (.inl t)] [] h q := by
  refine m_dim S s t (fun s s0 s1 => (F.fr s s0 s1).2) (hz_all F) (fun r hr => ?_)
  rcases hr with ⟨a, _⟩ | ⟨_, e⟩
  · exact absurd ⟨hs.1, hs.2, ht.1, ht.2⟩ a
  · rw [e, ← (F.fr s hs.1 hs.2).1]; exact K
def qA (a _i : Int) : Bool := decide (115 ≤ a ∧ a ≤ 116)
theorem qA_lmA : ∀ a i, lmA a i = false → qA a i = false := fun a i => dw (by omega)
theorem m_queues {d : Nat} {g : PH} {q : PQ} {n : Int} {B : Int → Q4t} {hst : Int → Int} {pln : Int → Prop} (S : Shape g) (s : Int) {tl : Int} (ok : ∀ i, 0 ≤ i → i ≤ n → bOk hst pln n B i) (n1 : 1 ≤ n) (n12 : n ≤ 12) (b0 : (B 0).1 < 1000) (hs : 0 ≤ s ∧ s < 9) (hn : gv g 66 62 = n) (ce : ∀ i, 0 ≤ i → i ≤ n → PMn g n i (B i)) (ht : gv g 116 s = tl) (t0 : 0 ≤ tl) (t1 : tl + (B 0).1 ≤ 240)
    (K : ∀ h', (Keep qA g h' ∧ gv h' 116 s = tl + (B 0).1 ∧ (∀ i, i ≠ s → gv h' 116 i = gv g 116 i) ∧ (∀ i, i < 640 * s + tl ∨ 640 * s + 640 ≤ i → gv h' 115 i = gv g 115 i) ∧ ∀ (j : Nat) w, (pth B n n.toNat 0)[j]? = some w → gv h' 115 (640 * s + tl + j) = w) → Shape h' → q none h') :
    Wp (d + 1) 0 0 M_X12_queues 0 [some (.inr (.inr 66)), some (.inl s), none] [] g q := by
  have len0 := pth_len ok n.toNat 0 (by omega) (Int.le_refl 0) (by omega) b0
  have bb0 : (B 0).1 ≤ 12 := by
    rcases ok 0 (Int.le_refl 0) (by omega) with y | ⟨y, _⟩ <;> omega
  have E : ∀ (f : Nat) (i : Int) (D : List Int) (h1 : PH), i = n → (pth B n n.toNat 0) = D ++ pth B n f i → Shape h1 → Keep qA g h1 → gv h1 116 s = tl + D.length → (∀ i, i ≠ s → gv h1 116 i = gv g 116 i) → (∀ i, i < 640 * s + tl ∨ 640 * s + 640 ≤ i → gv h1 115 i = gv g 115 i) → (∀ (j : Nat) w, D[j]? = some w → gv h1 115 (640 * s + tl + j) = w) →
      Wp (d + 1) 0 0 M_X12_queues 2 [some (.inr (.inr 66)), some (.inl s), some (.inl i)] [] h1 q := by
    intro f i D h1 hi hp S1 kp he ho hq hD
    subst hi
    rw [pth_end (Int.le_refl i), List.append_nil] at hp
    have c62 : gv h1 66 62 = i := (kp.1 66 62 rfl).trans hn
    refine p_iload 3 rfl rfl rfl ?_
    refine p_aload 4 rfl rfl rfl ?_
    refine p_getfi (j := 62) (z := i) 7 rfl rfl rfl (tg_66 S1) rfl c62 ?_
    refine p_ic_ge_t 53 rfl rfl (by omega) ?_
    refine p_ret rfl rfl ?_
    -- leaf 1: answer [] h=h1 
    exact K h1 ⟨kp, by rw [he, ← len0, hp], ho, hq, by rw [hp]; exact hD⟩ S1
  have J : ∀ (f : Nat) (i : Int) (D : List Int) (h1 : PH), n - i ≤ f → 0 ≤ i → i ≤ n → (B i).1 < 1000 → (pth B n n.toNat 0) = D ++ pth B n f i → Shape h1 → Keep qA g h1 → gv h1 116 s = tl + D.length → (∀ i, i ≠ s → gv h1 116 i = gv g 116 i) → (∀ i, i < 640 * s + tl ∨ 640 * s + 640 ≤ i → gv h1 115 i = gv g 115 i) → (∀ (j : Nat) w, D[j]? = some w → gv h1 115 (640 * s + tl + j) = w) →
      Wp (d + 1) 0 0 M_X12_queues 2 [some (.inr (.inr 66)), some (.inl s), some (.inl i)] [] h1 q := by
    intro f
    induction f with
    | zero =>
      intro i D h1 hf i0 i1 bi hp S1 kp he ho hq hD
      exact E 0 i D h1 (by omega) hp S1 kp he ho hq hD
    | succ f ih =>
      intro i D h1 hf i0 i1 bi hp S1 kp he ho hq hD
      by_cases z : i < n
      · have c62 : gv h1 66 62 = n := (kp.1 66 62 rfl).trans hn
        have pl := pth_len ok (f + 1) i (by omega) i0 i1 bi
        have len : (D.length : Int) + (pth B n (f + 1) i).length = (B 0).1 := by rw [← len0, hp, List.length_append]; rfl
        have bk := ok i i0 i1
        have cei := ce i i0 i1
        rcases cei with cei | ⟨_, _, _, cei⟩
        · omega
        obtain ⟨g112, g113⟩ := cei z
        have e112 : gv h1 112 i = (B i).2.2.1 := (kp.1 112 i rfl).trans g112
        have e113 : gv h1 113 i = (B i).2.2.2 := (kp.1 113 i rfl).trans g113
        rcases bk with y | ⟨⟨y1, y1'⟩, y2, y3⟩
        · omega
        obtain ⟨⟨z1, z2⟩, z3, z4, _⟩ := y3 z
        have z5 : 0 ≤ (B (B i).2.2.2).1 := by
          rcases ok (B i).2.2.2 (by omega) z2 with y | ⟨y, _⟩ <;> omega
        refine p_iload 3 rfl rfl rfl ?_
        refine p_aload 4 rfl rfl rfl ?_
        refine p_getfi (j := 62) (z := n) 7 rfl rfl rfl (tg_66 S1) rfl c62 ?_
        refine p_ic_ge_f 10 rfl rfl (by omega) ?_
        refine p_aload 11 rfl rfl rfl ?_
        refine p_getfr (j := 72) (z := 115) 14 rfl rfl rfl (tg_66 S1) rfl (fi_66_72 S1) ?_
        refine p_const 17 rfl rfl ?_
        refine p_iload 18 rfl rfl rfl ?_
        refine p_imul (z := 640 * s) 19 rfl rfl (w32_id ⟨(by omega), (by omega)⟩) ?_
        refine p_aload 20 rfl rfl rfl ?_
        refine p_getfr (j := 73) (z := 116) 23 rfl rfl rfl (tg_66 S1) rfl (fi_66_73 S1) ?_
        refine p_iload 24 rfl rfl rfl ?_
        refine p_iald (w := 10) (z := (tl + D.length)) 25 rfl rfl (tg_116 S1) (ln_116 S1) (by omega) (by omega) he ?_
        refine p_iadd (z := (640 * s) + (tl + D.length)) 26 rfl rfl (w32_id ⟨(by omega), (by omega)⟩) ?_
        refine p_aload 27 rfl rfl rfl ?_
        refine p_getfr (j := 66) (z := 112) 30 rfl rfl rfl (tg_66 S1) rfl (fi_66_66 S1) ?_
        refine p_iload 31 rfl rfl rfl ?_
        refine p_iald (w := 13) (z := (B i).2.2.1) 32 rfl rfl (tg_112 S1) (ln_112 S1) (by omega) (by omega) e112 ?_
        refine p_iast (w := 6400) 33 rfl rfl (by decide) (tg_115 S1) (ln_115 S1) (by omega) (by omega) ?_
        refine p_nmh (fun y1 e1 => ?_)
        have S1 : Shape y1 := by rw [e1]; exact S1.svA fa_115 _ _
        refine p_aload 34 rfl rfl rfl ?_
        refine p_getfr (j := 73) (z := 116) 37 rfl rfl rfl (tg_66 S1) rfl (fi_66_73 S1) ?_
        refine p_iload 38 rfl rfl rfl ?_
        refine p_dup2 39 rfl rfl nl_i nl_r ?_
        refine p_iald (w := 10) (z := (tl + D.length)) 40 rfl rfl (tg_116 S1) (ln_116 S1) (by omega) (by omega) (by rw [e1, sv_ne (by decide)]; exact he) ?_
        refine p_const 41 rfl rfl ?_
        refine p_iadd (z := (tl + D.length) + 1) 42 rfl rfl (w32_id ⟨(by omega), (by omega)⟩) ?_
        refine p_iast (w := 10) 43 rfl rfl (by decide) (tg_116 S1) (ln_116 S1) (by omega) (by omega) ?_
        refine p_nmh (fun y2 e2 => ?_)
        have S2 : Shape y2 := by rw [e2]; exact S1.svA fa_116 _ _
        refine p_aload 44 rfl rfl rfl ?_
        refine p_getfr (j := 67) (z := 113) 47 rfl rfl rfl (tg_66 S2) rfl (fi_66_67 S2) ?_
        refine p_iload 48 rfl rfl rfl ?_
        refine p_iald (w := 13) (z := (B i).2.2.2) 49 rfl rfl (tg_113 S2) (ln_113 S2) (by omega) (by omega) (by rw [e2, sv_ne (by decide)]; rw [e1, sv_ne (by decide)]; exact e113) ?_
        refine p_istore (ls' := [some (.inr (.inr 66)), some (.inl s), some (.inl ((B i).2.2.2))]) 50 rfl rfl (Nat.le_of_ble_eq_true rfl) rfl ?_
        refine p_goto 2 rfl rfl ?_
        -- leaf 1: loop 2 [some (.inr (.inr 66)), some (.inl s), some (.inl ((B i).2.2.2))] st=[] h=y2 e2,e1
        refine ih _ (D ++ [(B i).2.2.1]) _ (by omega) (by omega) z2 z3 ?_ S2 (by rw [e2, e1]; exact (kp.sv rfl _).sv rfl _) ?_ (fun x hx => ?_) (fun x hx => ?_) (fun j w hj => ?_)
        · rw [hp, List.append_assoc]; exact congrArg _ (if_pos z)
        · rw [e2, sv_eq, List.length_append]; show _ = tl + ((D.length + 1 : Nat) : Int); omega
        · rw [e2, sv_nf hx, e1, sv_ne (by decide)]; exact ho x hx
        · rw [e2, sv_ne (by decide), e1, sv_nf (by omega)]; exact hq x hx
        · rw [e2, sv_ne (by decide), e1]
          rcases snoc_get hj with ⟨j1, j2⟩ | ⟨j1, j2⟩
          · rw [sv_nf (by omega)]; exact hD j w j2
          · rw [j1, j2, show 640 * s + tl + (D.length : Int) = 640 * s + (tl + D.length) by omega, sv_eq]
      · exact E (f + 1) i D h1 (by omega) hp S1 kp he ho hq hD
  refine p_const 1 rfl rfl ?_
  refine p_istore (ls' := [some (.inr (.inr 66)), some (.inl s), some (.inl 0)]) 2 rfl rfl (Nat.le_of_ble_eq_true rfl) rfl ?_
  -- leaf 1: loop 2 [some (.inr (.inr 66)), some (.inl s), some (.inl 0)] st=[] h=g 
  exact J n.toNat 0 [] g (by omega) (by omega) (by omega) b0 rfl S (Keep.rf _ _) (by rw [ht]; show tl = tl + ((0 : Nat) : Int); omega) (fun _ _ => rfl) (fun _ _ => rfl) (fun j w hj => by cases hj)

