/-! SPLIT: the sets of senses and of names of the parts of a row of letters, and which places reach the end -/
theorem x_fillL {d : Nat} {h : PH} {q : PQ} (S : Shape h) (a v w : Int) (a2 : 2 ≤ a) (ha : finA a = true) (ht : tg h a = 101) (hl : ln h a = w) (w1 : w < 100000) (K : ∀ h', (Keep (fun b _ => decide (b = a)) h h' ∧ ∀ i, 0 ≤ i → i < w → gv h' a i = v) → Shape h' → q none h') :
    Wp (d + 1) 0 0 M_J7_fill_d0a16 0 [some (.inr (.inr a)), some (.inr (.inl v)), none, none, none] [] h q := by
  have L : ∀ (c : Nat) (k : Int) (h1 : PH), k + c = w → 0 ≤ k → Shape h1 → Keep (fun b _ => decide (b = a)) h h1 → (∀ i, 0 ≤ i → i < k → gv h1 a i = v) → Wp (d + 1) 0 0 M_J7_fill_d0a16 6 [some (.inr (.inr a)), some (.inr (.inl v)), none, some (.inl k), some (.inl w)] [] h1 q := by
    intro c
    induction c with
    | zero =>
      intro k h1 hk k0 S1 kp e
      refine p_iload 7 rfl rfl rfl ?_
      refine p_iload 9 rfl rfl rfl ?_
      refine p_ic_ge_t 22 rfl rfl (by omega) ?_
      refine p_ret rfl rfl ?_
      -- leaf 1: answer [] h=h1 
      exact K h1 ⟨kp, fun i i0 i1 => e i i0 (by omega)⟩ S1
    | succ c ih =>
      intro k h1 hk k0 S1 kp e
      have t1 : tg h1 a = 101 := (kp.2.2.1 a).trans ht
      have l1 : ln h1 a = w := (kp.2.2.2 a).trans hl
      refine p_iload 7 rfl rfl rfl ?_
      refine p_iload 9 rfl rfl rfl ?_
      refine p_ic_ge_f 12 rfl rfl (by omega) ?_
      refine p_aload 13 rfl rfl rfl ?_
      refine p_iload 14 rfl rfl rfl ?_
      refine p_lload 15 rfl rfl rfl ?_
      refine p_last (w := w) 16 rfl rfl a2 t1 l1 k0 (by omega) ?_
      refine p_iinc (y := k + 1) (ls' := [some (.inr (.inr a)), some (.inr (.inl v)), none, some (.inl (k + 1)), some (.inl w)]) 19 rfl rfl rfl (w32_id ⟨by omega, by omega⟩) rfl ?_
      refine p_goto 6 rfl rfl ?_
      refine ih (k + 1) _ (by omega) (by omega) (S1.svA ha _ _) (kp.sv (decide_eq_true rfl) _) ?_
      intro i i0 i1
      by_cases z : i = k
      · rw [z]; exact sv_eq _ _ _ _
      · rw [sv_nf z]; exact e i i0 (by omega)
  refine p_const 1 rfl rfl ?_
  refine p_istore (ls' := [some (.inr (.inr a)), some (.inr (.inl v)), none, some (.inl 0), none]) 2 rfl rfl (Nat.le_of_ble_eq_true rfl) rfl ?_
  refine p_aload 3 rfl rfl rfl ?_
  refine p_alen (w := w) 4 rfl rfl (by rw [ht]; decide) hl ?_
  refine p_istore (ls' := [some (.inr (.inr a)), some (.inr (.inl v)), none, some (.inl 0), some (.inl w)]) 6 rfl rfl (Nat.le_of_ble_eq_true rfl) rfl ?_
  have w0 : 0 ≤ w ∨ w < 0 := by omega
  rcases w0 with w0 | w0
  · exact L w.toNat 0 h (by omega) (Int.le_refl 0) S (Keep.rf _ _) (fun i i0 i1 => by omega)
  · refine p_iload 7 rfl rfl rfl ?_
    refine p_iload 9 rfl rfl rfl ?_
    refine p_ic_ge_t 22 rfl rfl (by omega) ?_
    refine p_ret rfl rfl ?_
    exact K h ⟨Keep.rf _ _, fun i i0 i1 => by omega⟩ S
theorem b40_ne {u : Int} (b : b40 u) : u ≠ 0 ↔ ∃ x, 0 ≤ x ∧ x < 40 ∧ bit u x = 1 := by
  have b1 := b.1
  have b2 := b.2
  constructor
  · intro h
    apply Classical.byContradiction
    intro n
    apply h
    have e : u.toNat = 0 := by
      apply Nat.eq_of_testBit_eq
      intro i
      rw [Nat.zero_testBit]
      by_cases c : i < 40
      · cases ct : u.toNat.testBit i
        · rfl
        · exfalso
          apply n
          exact ⟨i, by omega, by omega, by rw [bit_tb b1, Int.toNat_natCast, if_pos ct]⟩
      · apply Nat.testBit_lt_two_pow
        have : 2 ^ 40 ≤ 2 ^ i := Nat.pow_le_pow_right (by decide) (by omega)
        have e : (2 : Nat) ^ 40 = 1099511627776 := by decide
        omega
    omega
  · rintro ⟨x, _, _, h⟩ e
    rw [e, bit_zero] at h
    exact absurd h (by decide)
/-- the sets of names stand as they should -/
def NE (h : PH) (v : Int) (W : Int → Int → Prop) : Prop := ∀ fr len, 0 ≤ fr → 1 ≤ len → fr + len ≤ rl v → b40 (gv h 26 (fr * 5 + len)) ∧ ∀ id, 0 ≤ id → id < 40 → (bit (gv h 26 (fr * 5 + len)) id = 1 ↔ W (sub v (rl v) fr len) id)
def Re (W : Int → Int → Prop) (v fr : Int) : Prop := ∃ l, Sp W v (rl v) fr l
def Rf (h : PH) (W : Int → Int → Prop) (v fr : Int) : Prop := (gv h 27 fr = 1 ∧ Re W v fr) ∨ (gv h 27 fr = 0 ∧ ¬ Re W v fr)
theorem Re_end {W : Int → Int → Prop} {v : Int} : Re W v (rl v) := ⟨[], Int.le_refl _⟩
theorem Re_up {W : Int → Int → Prop} {v fr : Int} (f : fr < rl v) : Re W v fr ↔ ∃ len, 1 ≤ len ∧ fr + len ≤ rl v ∧ (∃ id, W (sub v (rl v) fr len) id) ∧ Re W v (fr + len) := by
  constructor
  · rintro ⟨l, hl⟩
    match l, hl with
    | [], hl => have hl : rl v ≤ fr := hl; omega
    | id :: r, ⟨len, h1, h2, h3, h4⟩ => exact ⟨len, h1, h2, ⟨id, h3⟩, r, h4⟩
  · rintro ⟨len, h1, h2, ⟨id, h3⟩, r, h4⟩
    exact ⟨id :: r, len, h1, h2, h3, h4⟩
def mkA (a _i : Int) : Bool := decide (a = 27)
theorem x_marks {d : Nat} {h : PH} {q : PQ} (S : Shape h) {v : Int} {W : Int → Int → Prop} (hn : gv h 24 4 = rl v) (vp : 0 < rl v) (N : NE h v W) (hW : ∀ c id, W c id → 0 ≤ id ∧ id < 40) (K : ∀ h', (Keep mkA h h' ∧ ∀ fr, 0 ≤ fr → fr ≤ rl v → Rf h' W v fr) → Shape h' → q none h') :
    Wp (d + 1) 0 0 M_X5_markEnds 0 [some (.inr (.inr 24)), none, none] [] h q := by
  have b := rl_in v
  have L : ∀ (c : Nat) (fr : Int) (w : Option PV) (h1 : PH), fr + 1 = c → fr < rl v → Shape h1 → Keep mkA h h1 → (∀ f, fr < f → f ≤ rl v → Rf h1 W v f) → Wp (d + 1) 0 0 M_X5_markEnds 17 [some (.inr (.inr 24)), some (.inl fr), w] [] h1 q := by
    intro c
    induction c with
    | zero =>
      intro fr w h1 hf fn S1 kp e
      refine p_iload 18 rfl rfl rfl ?_
      refine p_if_lt_t 85 rfl rfl (by omega) ?_
      refine p_ret rfl rfl ?_
      -- leaf 1: answer [] h=h1 
      exact K h1 ⟨kp, fun f f0 f1 => e f (by omega) f1⟩ S1
    | succ c ih =>
      intro fr w h1 hf fn S1 kp e
      have inner : ∀ (c2 : Nat) (m : Int) (h2 : PH), fr + m + c2 = rl v + 1 → 1 ≤ m → Shape h2 → Keep mkA h h2 → (∀ f, fr < f → f ≤ rl v → Rf h2 W v f) →
          ((gv h2 27 fr = 1 ∧ ∃ len, 1 ≤ len ∧ len < m ∧ (∃ id, W (sub v (rl v) fr len) id) ∧ Re W v (fr + len)) ∨ (gv h2 27 fr = 0 ∧ ¬ ∃ len, 1 ≤ len ∧ len < m ∧ (∃ id, W (sub v (rl v) fr len) id) ∧ Re W v (fr + len))) →
          Wp (d + 1) 0 0 M_X5_markEnds 30 [some (.inr (.inr 24)), some (.inl fr), some (.inl m)] [] h2 q := by
        intro c2
        induction c2 with
        | zero =>
          intro m h2 hm m1 S2 k2 e2 v2
          have hn2 : gv h2 24 4 = rl v := (k2.1 24 4 rfl).trans hn
          have fin : Rf h2 W v fr := by
            have u := Re_up (W := W) fn
            rcases v2 with ⟨v2, len, q1, q2, q3⟩ | ⟨v2, v3⟩
            · exact Or.inl ⟨v2, u.2 ⟨len, q1, by omega, q3⟩⟩
            · exact Or.inr ⟨v2, fun z => by obtain ⟨len, q1, q2, q3⟩ := u.1 z; exact v3 ⟨len, q1, by omega, q3⟩⟩
          refine p_iload 31 rfl rfl rfl ?_
          refine p_iload 32 rfl rfl rfl ?_
          refine p_iadd (z := fr + m) 33 rfl rfl (w32_id ⟨(by omega), (by omega)⟩) ?_
          refine p_aload 34 rfl rfl rfl ?_
          refine p_getfi (j := 4) (z := (rl v)) 37 rfl rfl rfl (tg_24 S2) rfl hn2 ?_
          refine p_ic_gt_t 79 rfl rfl (by omega) ?_
          refine p_iinc (y := fr - 1) (ls' := [some (.inr (.inr 24)), some (.inl (fr - 1)), some (.inl m)]) 82 rfl rfl rfl (wsub_id ⟨(by omega), (by omega)⟩) rfl ?_
          refine p_goto 17 rfl rfl ?_
          -- leaf 1: loop 17 [some (.inr (.inr 24)), some (.inl (fr - 1)), some (.inl m)] st=[] h=h2 
          refine ih (fr - 1) _ h2 (by omega) (by omega) S2 k2 (fun f f0 f1 => ?_)
          by_cases z : f = fr
          · rw [z]; exact fin
          · exact e2 f (by omega) f1
        | succ c2 ih2 =>
          intro m h2 hm m1 S2 k2 e2 v2
          have hn2 : gv h2 24 4 = rl v := (k2.1 24 4 rfl).trans hn
          have nm := N fr m (by omega) m1 (by omega)
          have e26 : gv h2 26 (fr * 5 + m) = gv h 26 (fr * 5 + m) := k2.1 26 _ rfl
          have rf := e2 (fr + m) (by omega) (by omega)
          have ne : gv h2 26 (fr * 5 + m) ≠ 0 ↔ ∃ id, W (sub v (rl v) fr m) id := by
            rw [e26, b40_ne nm.1]
            exact ⟨fun ⟨x, x0, x1, hx⟩ => ⟨x, (nm.2 x x0 x1).1 hx⟩, fun ⟨x, hx⟩ => ⟨x, (hW _ _ hx).1, (hW _ _ hx).2, (nm.2 x (hW _ _ hx).1 (hW _ _ hx).2).2 hx⟩⟩
          have no : ¬ ((∃ id, W (sub v (rl v) fr m) id) ∧ Re W v (fr + m)) → ((gv h2 27 fr = 1 ∧ ∃ len, 1 ≤ len ∧ len < m + 1 ∧ (∃ id, W (sub v (rl v) fr len) id) ∧ Re W v (fr + len)) ∨ (gv h2 27 fr = 0 ∧ ¬ ∃ len, 1 ≤ len ∧ len < m + 1 ∧ (∃ id, W (sub v (rl v) fr len) id) ∧ Re W v (fr + len))) := by
            intro n
            rcases v2 with ⟨v2, len, q1, q2, q3⟩ | ⟨v2, v3⟩
            · exact Or.inl ⟨v2, len, q1, by omega, q3⟩
            · refine Or.inr ⟨v2, ?_⟩
              rintro ⟨len, q1, q2, q3⟩
              by_cases z : len = m
              · rw [z] at q3; exact n q3
              · exact v3 ⟨len, q1, by omega, q3⟩
          refine p_iload 31 rfl rfl rfl ?_
          refine p_iload 32 rfl rfl rfl ?_
          refine p_iadd (z := fr + m) 33 rfl rfl (w32_id ⟨(by omega), (by omega)⟩) ?_
          refine p_aload 34 rfl rfl rfl ?_
          refine p_getfi (j := 4) (z := (rl v)) 37 rfl rfl rfl (tg_24 S2) rfl hn2 ?_
          refine p_ic_gt_f 40 rfl rfl (by omega) ?_
          refine p_aload 41 rfl rfl rfl ?_
          refine p_getfr (j := 6) (z := 26) 44 rfl rfl rfl (tg_24 S2) rfl (fi_24_6 S2) ?_
          refine p_iload 45 rfl rfl rfl ?_
          refine p_const 46 rfl rfl ?_
          refine p_imul (z := fr * 5) 47 rfl rfl (w32_id ⟨(by omega), (by omega)⟩) ?_
          refine p_iload 48 rfl rfl rfl ?_
          refine p_iadd (z := (fr * 5) + m) 49 rfl rfl (w32_id ⟨(by omega), (by omega)⟩) ?_
          refine p_lald (w := 20) (z := gv h2 26 ((fr * 5) + m)) 50 rfl rfl (tg_26 S2) (ln_26 S2) (by omega) (by omega) rfl ?_
          refine p_lconst 51 rfl rfl ?_
          refine p_lc_eq 52 55 73 rfl rfl rfl rfl rfl (fun c1 => ?_) (fun c1 => ?_)
          · skip
            refine p_iinc (y := m + 1) (ls' := [some (.inr (.inr 24)), some (.inl fr), some (.inl (m + 1))]) 76 rfl rfl rfl (w32_id ⟨(by omega), (by omega)⟩) rfl ?_
            refine p_goto 30 rfl rfl ?_
            -- leaf 1: loop 30 [some (.inr (.inr 24)), some (.inl fr), some (.inl (m + 1))] st=[] h=h2 
            exact ih2 (m + 1) h2 (by omega) (by omega) S2 k2 e2 (no (fun z => ne.2 z.1 c1))
          · skip
            refine p_aload 56 rfl rfl rfl ?_
            refine p_getfr (j := 7) (z := 27) 59 rfl rfl rfl (tg_24 S2) rfl (fi_24_7 S2) ?_
            refine p_iload 60 rfl rfl rfl ?_
            refine p_iload 61 rfl rfl rfl ?_
            refine p_iadd (z := fr + m) 62 rfl rfl (w32_id ⟨(by omega), (by omega)⟩) ?_
            refine p_bald (w := 5) (z := gv h2 27 (fr + m)) 63 rfl rfl (Or.inr (tg_27 S2)) (ln_27 S2) (by omega) (by omega) rfl ?_
            refine p_if_eq 66 73 rfl rfl rfl (fun c2 => ?_) (fun c2 => ?_)
            · skip
              refine p_iinc (y := m + 1) (ls' := [some (.inr (.inr 24)), some (.inl fr), some (.inl (m + 1))]) 76 rfl rfl rfl (w32_id ⟨(by omega), (by omega)⟩) rfl ?_
              refine p_goto 30 rfl rfl ?_
              -- leaf 2: loop 30 [some (.inr (.inr 24)), some (.inl fr), some (.inl (m + 1))] st=[] h=h2 
              refine ih2 (m + 1) h2 (by omega) (by omega) S2 k2 e2 (no (fun z => ?_))
              rcases rf with ⟨q, _⟩ | ⟨_, q⟩
              · omega
              · exact q z.2
            · skip
              refine p_aload 67 rfl rfl rfl ?_
              refine p_getfr (j := 7) (z := 27) 70 rfl rfl rfl (tg_24 S2) rfl (fi_24_7 S2) ?_
              refine p_iload 71 rfl rfl rfl ?_
              refine p_const 72 rfl rfl ?_
              refine p_zast (w := 5) 73 rfl rfl (by decide) (tg_27 S2) (ln_27 S2) (by omega) (by omega) (by decide) ?_
              refine p_nmh (fun y3 e3 => ?_)
              have S3 : Shape y3 := by rw [e3]; exact S2.svA fa_27 _ _
              refine p_iinc (y := m + 1) (ls' := [some (.inr (.inr 24)), some (.inl fr), some (.inl (m + 1))]) 76 rfl rfl rfl (w32_id ⟨(by omega), (by omega)⟩) rfl ?_
              refine p_goto 30 rfl rfl ?_
              -- leaf 3: loop 30 [some (.inr (.inr 24)), some (.inl fr), some (.inl (m + 1))] st=[] h=y3 e3
              have g : (∃ id, W (sub v (rl v) fr m) id) ∧ Re W v (fr + m) := ⟨ne.1 c1, by
                rcases rf with ⟨_, q⟩ | ⟨q, _⟩
                · exact q
                · omega⟩
              refine ih2 (m + 1) _ (by omega) (by omega) S3 (by rw [e3]; exact k2.sv rfl _) (fun f f0 f1 => ?_) (Or.inl ⟨by rw [e3, sv_eq], m, m1, by omega, g⟩)
              unfold Rf; rw [e3, sv_nf (by omega)]; exact e2 f f0 f1
      refine p_iload 18 rfl rfl rfl ?_
      refine p_if_lt_f 21 rfl rfl (by omega) ?_
      refine p_aload 22 rfl rfl rfl ?_
      refine p_getfr (j := 7) (z := 27) 25 rfl rfl rfl (tg_24 S1) rfl (fi_24_7 S1) ?_
      refine p_iload 26 rfl rfl rfl ?_
      refine p_const 27 rfl rfl ?_
      refine p_zast (w := 5) 28 rfl rfl (by decide) (tg_27 S1) (ln_27 S1) (by omega) (by omega) (by decide) ?_
      refine p_nmh (fun y1 e1 => ?_)
      have S1 : Shape y1 := by rw [e1]; exact S1.svA fa_27 _ _
      refine p_const 29 rfl rfl ?_
      refine p_istore (ls' := [some (.inr (.inr 24)), some (.inl fr), some (.inl 1)]) 30 rfl rfl (Nat.le_of_ble_eq_true rfl) rfl ?_
      -- leaf 1: loop 30 [some (.inr (.inr 24)), some (.inl fr), some (.inl 1)] st=[] h=y1 e1
      refine inner (rl v - fr).toNat 1 _ (by omega) (by omega) S1 (by rw [e1]; exact kp.sv rfl _) (fun f f0 f1 => ?_) (Or.inr ⟨by rw [e1, sv_eq], ?_⟩)
      · unfold Rf; rw [e1, sv_nf (by omega)]; exact e f f0 f1
      · rintro ⟨len, q1, q2, _⟩; omega
  refine p_aload 1 rfl rfl rfl ?_
  refine p_getfr (j := 7) (z := 27) 4 rfl rfl rfl (tg_24 S) rfl (fi_24_7 S) ?_
  refine p_aload 5 rfl rfl rfl ?_
  refine p_getfi (j := 4) (z := (rl v)) 8 rfl rfl rfl (tg_24 S) rfl hn ?_
  refine p_const 9 rfl rfl ?_
  refine p_zast (w := 5) 10 rfl rfl (by decide) (tg_27 S) (ln_27 S) (by omega) (by omega) (by decide) ?_
  refine p_nmh (fun y1 e1 => ?_)
  have S1 : Shape y1 := by rw [e1]; exact S.svA fa_27 _ _
  refine p_aload 11 rfl rfl rfl ?_
  refine p_getfi (j := 4) (z := (rl v)) 14 rfl rfl rfl (tg_24 S1) rfl (by rw [e1, sv_ne (by decide)]; exact hn) ?_
  refine p_const 15 rfl rfl ?_
  refine p_isub (z := (rl v) - 1) 16 rfl rfl (w32_id ⟨(by omega), (by omega)⟩) ?_
  refine p_istore (ls' := [some (.inr (.inr 24)), some (.inl ((rl v) - 1)), none]) 17 rfl rfl (Nat.le_of_ble_eq_true rfl) rfl ?_
  -- leaf 1: loop 17 [some (.inr (.inr 24)), some (.inl ((rl v) - 1)), none] st=[] h=y1 e1
  refine L (rl v).toNat (rl v - 1) none _ (by omega) (by omega) S1 (by rw [e1]; exact (Keep.rf _ _).sv rfl _) (fun f f0 f1 => ?_)
  have : f = rl v := by omega
  unfold Rf; rw [this, e1, sv_eq]; exact Or.inl ⟨rfl, Re_end⟩
def slA (a i : Int) : Bool := decide ((a = 24 ∧ i = 4) ∨ (25 ≤ a ∧ a ≤ 27))
theorem mkA_slA : ∀ a i, slA a i = false → mkA a i = false := fun a i => dw (by omega)
theorem slA_bkB : ∀ a i, bkB a i = false → slA a i = false := fun a i => dw (by omega)
theorem slA_b : ∀ a i, (128 : Int) ≤ a → slA a i = false := fun a i h => decide_eq_false (by omega)
/-- the sets as far as P tells -/
def SX (h1 h : PH) (k s t z v : Int) (P : Int → Int → Prop) : Prop := ∀ fr len, 0 ≤ fr → 1 ≤ len → fr + len ≤ rl v → b40 (gv h1 25 (fr * 5 + len)) ∧ b40 (gv h1 26 (fr * 5 + len)) ∧
  (∀ j, 0 ≤ j → j < 40 → (bit (gv h1 25 (fr * 5 + len)) j = 1 ↔ Us h k s t z (sub v (rl v) fr len) j ∧ P fr j)) ∧ ∀ id, 0 ≤ id → id < 40 → (bit (gv h1 26 (fr * 5 + len)) id = 1 ↔ ∃ j, (Us h k s t z (sub v (rl v) fr len) j ∧ P fr j) ∧ fi h k j = id)
theorem SX.imp {h1 h : PH} {k s t z v : Int} {P P' : Int → Int → Prop} (X : SX h1 h k s t z v P) (e : ∀ fr len j, 0 ≤ fr → 1 ≤ len → fr + len ≤ rl v → Us h k s t z (sub v (rl v) fr len) j → (P fr j ↔ P' fr j)) : SX h1 h k s t z v P' := by
  intro fr len f0 l0 fl
  obtain ⟨a1, a2, a3, a4⟩ := X fr len f0 l0 fl
  have g : ∀ j, (Us h k s t z (sub v (rl v) fr len) j ∧ P fr j) ↔ (Us h k s t z (sub v (rl v) fr len) j ∧ P' fr j) := fun j => ⟨fun x => ⟨x.1, (e fr len j f0 l0 fl x.1).1 x.2⟩, fun x => ⟨x.1, (e fr len j f0 l0 fl x.1).2 x.2⟩⟩
  refine ⟨a1, a2, fun j j0 j1 => (a3 j j0 j1).trans (g j), fun id i0 i1 => (a4 id i0 i1).trans ?_⟩
  exact ⟨fun ⟨j, x, y⟩ => ⟨j, (g j).1 x, y⟩, fun ⟨j, x, y⟩ => ⟨j, (g j).2 x, y⟩⟩
/-- one part more: sense j at fr -/
theorem SX.put {h1 h2 h : PH} {k s t z v m sn f : Int} {P : Int → Int → Prop} (X : SX h1 h k s t z v P) (g : letters v) (n40 : gv h 79 k ≤ 40) (hm : m = rl (cd h k sn)) (f0 : 0 ≤ f) (m1 : 1 ≤ m) (fm : f + m ≤ rl v)
    (u : Us h k s t z (sub v (rl v) f m) sn) (e25 : gv h2 25 (f * 5 + m) = or64 (gv h1 25 (f * 5 + m)) (w64 (1 * 2 ^ sn.toNat))) (e26 : gv h2 26 (f * 5 + m) = or64 (gv h1 26 (f * 5 + m)) (w64 (1 * 2 ^ (fi h k sn).toNat)))
    (o : ∀ i, i ≠ f * 5 + m → gv h2 25 i = gv h1 25 i ∧ gv h2 26 i = gv h1 26 i) : SX h2 h k s t z v (fun fr j => P fr j ∨ (fr = f ∧ j = sn)) := by
  have b := rl_in v
  have u0 := u
  obtain ⟨u1, u2, u3, u4⟩ := u
  have fin := fi_in u1 u2
  intro fr len f0' l0 fl
  obtain ⟨a1, a2, a3, a4⟩ := X fr len f0' l0 fl
  by_cases c : fr = f ∧ len = m
  · obtain ⟨rfl, rfl⟩ := c
    rw [e25, e26]
    refine ⟨or_in64 a1 (by omega), or_in64 a2 (by omega), fun j j0 j1 => ?_, fun id i0 i1 => ?_⟩
    · rw [or_bit64 a1 u1 (by omega) j0]
      by_cases y : j = sn
      · rw [if_pos y, y]
        exact ⟨fun _ => ⟨u0, Or.inr ⟨rfl, rfl⟩⟩, fun _ => rfl⟩
      · rw [if_neg y, a3 j j0 j1]
        exact ⟨fun x => ⟨x.1, Or.inl x.2⟩, fun x => ⟨x.1, x.2.elim id (fun w => absurd w.2 y)⟩⟩
    · rw [or_bit64 a2 fin.1 (by omega) i0]
      by_cases y : id = fi h k sn
      · rw [if_pos y]
        exact ⟨fun _ => ⟨sn, ⟨u0, Or.inr ⟨rfl, rfl⟩⟩, y.symm⟩, fun _ => rfl⟩
      · rw [if_neg y, a4 id i0 i1]
        constructor
        · rintro ⟨j, x, w⟩; exact ⟨j, ⟨x.1, Or.inl x.2⟩, w⟩
        · rintro ⟨j, ⟨x, x2⟩, w⟩
          rcases x2 with x2 | x2
          · exact ⟨j, ⟨x, x2⟩, w⟩
          · exfalso; apply y; rw [← w, x2.2]
  · have i5 : fr * 5 + len ≠ f * 5 + m := by omega
    rw [(o _ i5).1, (o _ i5).2]
    have ng : ∀ j, Us h k s t z (sub v (rl v) fr len) j → (P fr j ↔ (P fr j ∨ (fr = f ∧ j = sn))) := by
      intro j uj
      refine ⟨Or.inl, fun x => x.elim id (fun w => ?_)⟩
      exfalso
      apply c
      refine ⟨w.1, ?_⟩
      have r1 := rl_sub g f0' l0 fl
      rw [← uj.2.2.2, w.2, ← hm] at r1
      exact r1.symm
    refine ⟨a1, a2, fun j j0 j1 => (a3 j j0 j1).trans ⟨fun x => ⟨x.1, (ng j x.1).1 x.2⟩, fun x => ⟨x.1, (ng j x.1).2 x.2⟩⟩, fun id i0 i1 => (a4 id i0 i1).trans ?_⟩
    exact ⟨fun ⟨j, x, y⟩ => ⟨j, ⟨x.1, (ng j x.1).1 x.2⟩, y⟩, fun ⟨j, x, y⟩ => ⟨j, ⟨x.1, (ng j x.1).2 x.2⟩, y⟩⟩
theorem p5w {m : Int} (m1 : 1 ≤ m) (m4 : m ≤ 4) : 1 ≤ w32 (1 * 2 ^ (5 * m).toNat) ∧ w32 (1 * 2 ^ (5 * m).toNat) ≤ 1048576 := by
  rcases (show m = 1 ∨ m = 2 ∨ m = 3 ∨ m = 4 by omega) with rfl | rfl | rfl | rfl <;> decide
theorem wsub1 {x : Int} (h : 1 ≤ x ∧ x ≤ 1048576) : -2147483648 ≤ x - 1 ∧ x - 1 < 2147483648 := by omega
theorem msk {x m : Int} (m1 : 1 ≤ m) (m4 : m ≤ 4) : an32 x (w32 (1 * 2 ^ (5 * m).toNat) - 1) = x % 2 ^ (5 * m).toNat := by
  rcases (show m = 1 ∨ m = 2 ∨ m = 3 ∨ m = 4 by omega) with rfl | rfl | rfl | rfl
  · exact mask32 5 rfl (by decide)
  · exact mask32 10 rfl (by decide)
  · exact mask32 15 rfl (by decide)
  · exact mask32 20 rfl (by decide)
/-- the row v is split, by the senses in force of book k -/
def SplX (h' h : PH) (k s t z v : Int) : Prop := gv h' 24 4 = rl v ∧ SX h' h k s t z v (fun _ _ => True) ∧ NE h' v (Ws h k s t z) ∧ ∀ fr, 0 ≤ fr → fr ≤ rl v → Rf h' (Ws h k s t z) v fr
theorem x_split {d : Nat} {h : PH} {q : PQ} (S : Shape h) (v : Int) {a k s t z : Int} (R : BkR h a k) (Pr : Prep h a k s t z) (g : letters v) (K : ∀ h', (Keep slA h h' ∧ SplX h' h k s t z v) → Shape h' → q none h') :
    Wp (d + 2) 0 0 M_X5_split 0 [some (.inr (.inr 24)), some (.inl v), none, none, none, none] [] h q := by
  have b := rl_in v
  have vb := rl_pos g.1
  obtain ⟨n0, n40, pl, pl0, pl7, B, I⟩ := R
  obtain ⟨hb, h40, hh⟩ := Pr
  have a0 := B.ge
  have f0 := B.f0
  have L : ∀ (c : Nat) (sn : Int) (w1 w2 w3 : Option PV) (h1 : PH), sn + c = gv h 79 k → 0 ≤ sn → Shape h1 → Keep slA h h1 → gv h1 24 4 = rl v → SX h1 h k s t z v (fun _ j => j < sn) →
      Wp (d + 2) 0 0 M_X5_split 26 [some (.inr (.inr 24)), some (.inl v), some (.inl sn), w1, w2, w3] [] h1 q := by
    intro c
    induction c with
    | zero =>
      intro sn w1 w2 w3 h1 hs s0 S1 kp hn X
      have X' : SX h1 h k s t z v (fun _ _ => True) := X.imp (fun fr len j _ _ _ u => ⟨fun _ => trivial, fun _ => by have := u.2.1; omega⟩)
      have N : NE h1 v (Ws h k s t z) := fun fr len q0 q1 q2 => ⟨(X' fr len q0 q1 q2).2.1, fun id i0 i1 => ((X' fr len q0 q1 q2).2.2.2 id i0 i1).trans ⟨fun ⟨j, x, y⟩ => ⟨j, x.1, y⟩, fun ⟨j, x, y⟩ => ⟨j, ⟨x, trivial⟩, y⟩⟩⟩
      refine p_aload 27 rfl rfl rfl ?_
      refine p_getfr (j := 2) (z := a) 30 rfl rfl rfl (tg_24 S1) rfl ((kp.1 _ _ rfl).trans hb) ?_
      refine p_ifnull 33 167 rfl rfl rfl (fun z => absurd z (by omega)) (fun c1 => ?_)
      refine p_iload 34 rfl rfl rfl ?_
      refine p_aload 35 rfl rfl rfl ?_
      refine p_getfr (j := 2) (z := a) 38 rfl rfl rfl (tg_24 S1) rfl ((kp.1 _ _ rfl).trans hb) ?_
      refine p_getfi (j := 0) (z := gv h a 0) 41 rfl rfl rfl (B.kp kp slA_b).tag rfl (kp.1 _ _ (slA_b _ _ B.ge)) ?_
      refine p_ic_ge_t 167 rfl rfl (by omega) ?_
      refine p_aload 168 rfl rfl rfl ?_
      refine p_callv (le := [some (.inr (.inr 24)), none, none]) (as := [.inr (.inr 24)]) (rest := []) 171 0 0 0 0 rfl rfl (Nat.le_of_ble_eq_true rfl) rfl (Nat.le_of_ble_eq_true rfl) rfl rfl (Nat.le_of_ble_eq_true rfl) rfl (Nat.le_of_ble_eq_true rfl) rfl (Nat.le_refl _) (Nat.le_refl _) rfl rfl (tg_24 S1) ?_
      refine x_marks S1  (hn) (g.1) (N) ((fun c id w => w.in n40)) (fun y2 p2 S2 => ?_)
      have kp2 : Keep slA h y2 := kp.trans (p2.1.wide mkA_slA)
      show Wp (d + 2) 0 0 M_X5_split 171 [some (.inr (.inr 24)), some (.inl v), some (.inl sn), w1, w2, w3] [] y2 _
      refine p_ret rfl rfl ?_
      -- leaf 1: answer [] h=y2  kp2
      obtain ⟨q1, q2⟩ := p2
      have q3 : ∀ i, gv y2 25 i = gv h1 25 i := fun i => q1.1 25 i rfl
      have q4 : ∀ i, gv y2 26 i = gv h1 26 i := fun i => q1.1 26 i rfl
      refine K _ ⟨kp.trans (q1.wide mkA_slA), (q1.1 24 4 rfl).trans hn, fun fr len z0 z1 z2 => ?_, fun fr len z0 z1 z2 => ?_, q2⟩ S2
      · rw [q3, q4]; exact X' fr len z0 z1 z2
      · rw [q4]; exact N fr len z0 z1 z2
    | succ c ih =>
      intro sn w1 w2 w3 h1 hs s0 S1 kp hn X
      obtain ⟨⟨i1, i1'⟩, ⟨i2, i2'⟩, i3, i4, i5⟩ := I sn s0 (by omega)
      have rc := rl_in (cd h k sn)
      have rp := i2'.1
      have fs := fi_eq n0 i4
      have fin := fi_in (h := h) (k := k) s0 (by omega)
      have hbit := hh sn s0 (by omega)
      have pw := p5w (m := rl (cd h k sn)) (by omega) (by omega)
      have inner : ∀ (c2 : Nat) (fr : Int) (w : Option PV) (h2 : PH), fr + c2 = rl v + 1 → 0 ≤ fr → Shape h2 → Keep slA h h2 → gv h2 24 4 = rl v → SX h2 h k s t z v (fun f j => j < sn ∨ (j = sn ∧ f < fr)) →
          Wp (d + 2) 0 0 M_X5_split 57 [some (.inr (.inr 24)), some (.inl v), some (.inl sn), some (.inl (rl (cd h k sn))), some (.inl fr), w] [] h2 q := by
        intro c2
        induction c2 with
        | zero =>
          intro fr w h2 hf q0 S2 k2 hn2 X2
          refine p_iload 59 rfl rfl rfl ?_
          refine p_iload 60 rfl rfl rfl ?_
          refine p_iadd (z := fr + (rl (cd h k sn))) 61 rfl rfl (w32_id ⟨(by omega), (by omega)⟩) ?_
          refine p_aload 62 rfl rfl rfl ?_
          refine p_getfi (j := 4) (z := (rl v)) 65 rfl rfl rfl (tg_24 S2) rfl hn2 ?_
          refine p_ic_gt_t 161 rfl rfl (by omega) ?_
          refine p_iinc (y := sn + 1) (ls' := [some (.inr (.inr 24)), some (.inl v), some (.inl (sn + 1)), some (.inl (rl (cd h k sn))), some (.inl fr), w]) 164 rfl rfl rfl (w32_id ⟨(by omega), (by omega)⟩) rfl ?_
          refine p_goto 26 rfl rfl ?_
          -- leaf 1: loop 26 [some (.inr (.inr 24)), some (.inl v), some (.inl (sn + 1)), some (.inl (rl (cd h k sn))), some (.inl fr), w] st=[] h=h2  k2
          exact ih (sn + 1) _ _ _ h2 (by omega) (by omega) S2 k2 hn2 (X2.imp (fun f len j _ _ _ u => ⟨fun x => by omega, fun x => by omega⟩))
        | succ c2 ih2 =>
          intro fr w h2 hf q0 S2 k2 hn2 X2
          have exit : (rl v < fr + rl (cd h k sn) ∨ tv h k s t z sn ≠ 1) → SX h2 h k s t z v (fun _ j => j < sn + 1) := fun x => X2.imp (fun f len j y0 y1 y2 u => by
            refine ⟨fun y => by omega, fun y => ?_⟩
            by_cases e : j = sn
            · refine Or.inr ⟨e, ?_⟩
              rcases x with x | x
              · have r1 := rl_sub g y0 y1 y2
                rw [← u.2.2.2, e] at r1
                omega
              · rw [e] at u; exact absurd u.2.2.1 x
            · exact Or.inl (by omega))
          refine p_iload 59 rfl rfl rfl ?_
          refine p_iload 60 rfl rfl rfl ?_
          refine p_iadd (z := fr + (rl (cd h k sn))) 61 rfl rfl (w32_id ⟨(by omega), (by omega)⟩) ?_
          refine p_aload 62 rfl rfl rfl ?_
          refine p_getfi (j := 4) (z := (rl v)) 65 rfl rfl rfl (tg_24 S2) rfl hn2 ?_
          refine p_ic_gt 68 161 rfl rfl rfl (fun c1 => ?_) (fun c1 => ?_)
          · skip
            refine p_iinc (y := sn + 1) (ls' := [some (.inr (.inr 24)), some (.inl v), some (.inl (sn + 1)), some (.inl (rl (cd h k sn))), some (.inl fr), w]) 164 rfl rfl rfl (w32_id ⟨(by omega), (by omega)⟩) rfl ?_
            refine p_goto 26 rfl rfl ?_
            -- leaf 1: loop 26 [some (.inr (.inr 24)), some (.inl v), some (.inl (sn + 1)), some (.inl (rl (cd h k sn))), some (.inl fr), w] st=[] h=h2  k2
            exact ih (sn + 1) _ _ _ h2 (by omega) (by omega) S2 k2 hn2 (exit (Or.inl (by omega)))
          · skip
            refine p_aload 69 rfl rfl rfl ?_
            refine p_iload 70 rfl rfl rfl ?_
            refine p_callv (le := [some (.inr (.inr 24)), some (.inl sn)]) (as := [.inr (.inr 24), .inl sn]) (rest := []) 73 0 0 0 0 rfl rfl (Nat.le_of_ble_eq_true rfl) rfl (Nat.le_of_ble_eq_true rfl) rfl rfl (Nat.le_of_ble_eq_true rfl) rfl (Nat.le_of_ble_eq_true rfl) rfl (Nat.le_refl _) (Nat.le_refl _) rfl rfl (tg_24 S2) ?_
            refine p_aload 1 rfl rfl rfl ?_
            refine p_getfl (j := 3) (z := gv h 24 3) 4 rfl rfl rfl (tg_24 S2) rfl (k2.1 _ _ rfl) ?_
            refine p_iload 5 rfl rfl rfl ?_
            refine p_lshr (z := (gv h 24 3) / 2 ^ (sn).toNat) 6 rfl rfl (by omega) (by omega) rfl ?_
            refine p_lconst 7 rfl rfl ?_
            refine p_land (z := ((gv h 24 3) / 2 ^ (sn).toNat) % 2) 8 rfl rfl (mask64 1 rfl (by decide)) ?_
            refine p_lconst 9 rfl rfl ?_
            refine p_lc_eq 10 13 17 rfl rfl rfl rfl rfl (fun c2 => ?_) (fun c2 => ?_)
            · skip
              refine p_const 18 rfl rfl ?_
              refine p_zret rfl rfl (by decide) ?_
              show Wp (d + 2) 0 0 M_X5_split 73 [some (.inr (.inr 24)), some (.inl v), some (.inl sn), some (.inl (rl (cd h k sn))), some (.inl fr), w] [.inl 0] h2 _
              refine p_if_eq_t 161 rfl rfl (by decide) ?_
              refine p_iinc (y := sn + 1) (ls' := [some (.inr (.inr 24)), some (.inl v), some (.inl (sn + 1)), some (.inl (rl (cd h k sn))), some (.inl fr), w]) 164 rfl rfl rfl (w32_id ⟨(by omega), (by omega)⟩) rfl ?_
              refine p_goto 26 rfl rfl ?_
              -- leaf 2: loop 26 [some (.inr (.inr 24)), some (.inl v), some (.inl (sn + 1)), some (.inl (rl (cd h k sn))), some (.inl fr), w] st=[] h=h2  k2
              exact ih (sn + 1) _ _ _ h2 (by omega) (by omega) S2 k2 hn2 (exit (Or.inr (by have c2 : bit (gv h 24 3) sn = 0 := c2; omega)))
            · skip
              refine p_const 14 rfl rfl ?_
              refine p_goto 18 rfl rfl ?_
              refine p_zret rfl rfl (by decide) ?_
              show Wp (d + 2) 0 0 M_X5_split 73 [some (.inr (.inr 24)), some (.inl v), some (.inl sn), some (.inl (rl (cd h k sn))), some (.inl fr), w] [.inl 1] h2 _
              refine p_if_eq_f 76 rfl rfl (by decide) ?_
              refine p_iload 77 rfl rfl rfl ?_
              refine p_const 78 rfl rfl ?_
              refine p_aload 79 rfl rfl rfl ?_
              refine p_getfi (j := 4) (z := (rl v)) 82 rfl rfl rfl (tg_24 S2) rfl hn2 ?_
              refine p_iload 84 rfl rfl rfl ?_
              refine p_isub (z := (rl v) - fr) 85 rfl rfl (w32_id ⟨(by omega), (by omega)⟩) ?_
              refine p_iload 86 rfl rfl rfl ?_
              refine p_isub (z := ((rl v) - fr) - (rl (cd h k sn))) 87 rfl rfl (w32_id ⟨(by omega), (by omega)⟩) ?_
              refine p_imul (z := 5 * (((rl v) - fr) - (rl (cd h k sn)))) 88 rfl rfl (w32_id ⟨(by omega), (by omega)⟩) ?_
              refine p_ishr (z := v / 2 ^ (5 * (((rl v) - fr) - (rl (cd h k sn)))).toNat) 89 rfl rfl (by omega) (by omega) rfl ?_
              refine p_istore (ls' := [some (.inr (.inr 24)), some (.inl v), some (.inl sn), some (.inl (rl (cd h k sn))), some (.inl fr), some (.inl (v / 2 ^ (5 * (((rl v) - fr) - (rl (cd h k sn)))).toNat))]) 91 rfl rfl (Nat.le_of_ble_eq_true rfl) rfl ?_
              refine p_iload 93 rfl rfl rfl ?_
              refine p_const 94 rfl rfl ?_
              refine p_const 95 rfl rfl ?_
              refine p_iload 96 rfl rfl rfl ?_
              refine p_imul (z := 5 * (rl (cd h k sn))) 97 rfl rfl (w32_id ⟨(by omega), (by omega)⟩) ?_
              refine p_ishl (z := w32 (1 * 2 ^ (5 * (rl (cd h k sn))).toNat)) 98 rfl rfl (by omega) (by omega) rfl ?_
              refine p_const 99 rfl rfl ?_
              refine p_isub (z := (w32 (1 * 2 ^ (5 * (rl (cd h k sn))).toNat)) - 1) 100 rfl rfl (w32_id ⟨(by (have hq := wsub1 pw; clear pw; revert hq; generalize w32 _ = x; intro hq; omega)), (by (have hq := wsub1 pw; clear pw; revert hq; generalize w32 _ = x; intro hq; omega))⟩) ?_
              refine p_iand (z := an32 (v / 2 ^ (5 * (((rl v) - fr) - (rl (cd h k sn)))).toNat) ((w32 (1 * 2 ^ (5 * (rl (cd h k sn))).toNat)) - 1)) 101 rfl rfl rfl ?_
              refine p_aload 102 rfl rfl rfl ?_
              refine p_getfr (j := 2) (z := a) 105 rfl rfl rfl (tg_24 S2) rfl ((k2.1 _ _ rfl).trans hb) ?_
              refine p_getfr (j := 2) (z := a + 2) 108 rfl rfl rfl (B.kp k2 slA_b).tag rfl (B.kp k2 slA_b).f2 ?_
              refine p_iload 109 rfl rfl rfl ?_
              refine p_iald (w := (gv h 79 k)) (z := gv h (a + 2) sn) 110 rfl rfl ((B.kp k2 slA_b).t2) ((B.kp k2 slA_b).l2) (by omega) (by omega) (k2.1 _ _ (slA_b _ _ (by have := B.ge; omega))) ?_
              refine p_ic_ne 113 155 rfl rfl rfl (fun c3 => ?_) (fun c3 => ?_)
              · skip
                refine p_iinc (y := fr + 1) (ls' := [some (.inr (.inr 24)), some (.inl v), some (.inl sn), some (.inl (rl (cd h k sn))), some (.inl (fr + 1)), some (.inl (v / 2 ^ (5 * (((rl v) - fr) - (rl (cd h k sn)))).toNat))]) 158 rfl rfl rfl (w32_id ⟨(by omega), (by omega)⟩) rfl ?_
                refine p_goto 57 rfl rfl ?_
                -- leaf 3: loop 57 [some (.inr (.inr 24)), some (.inl v), some (.inl sn), some (.inl (rl (cd h k sn))), some (.inl (fr + 1)), some (.inl (v / 2 ^ (5 * (((rl v) - fr) - (rl (cd h k sn)))).toNat))] st=[] h=h2  k2
                rw [msk (by omega) (by omega), i2] at c3
                refine ih2 (fr + 1) _ h2 (by omega) (by omega) S2 k2 hn2 (X2.imp (fun f len j y0 y1 y2 u => ⟨fun x => by omega, fun x => ?_⟩))
                rcases x with x | x
                · exact Or.inl x
                · refine Or.inr ⟨x.1, ?_⟩
                  apply Decidable.byContradiction
                  intro y
                  have e : f = fr := by omega
                  subst e
                  have r1 := rl_sub g y0 y1 y2
                  rw [← u.2.2.2, x.1] at r1
                  rw [x.1] at u
                  have e9 := u.2.2.2
                  rw [← r1] at e9
                  exact c3 e9.symm
              · skip
                refine p_aload 114 rfl rfl rfl ?_
                refine p_getfr (j := 5) (z := 25) 117 rfl rfl rfl (tg_24 S2) rfl (fi_24_5 S2) ?_
                refine p_iload 119 rfl rfl rfl ?_
                refine p_const 120 rfl rfl ?_
                refine p_imul (z := fr * 5) 121 rfl rfl (w32_id ⟨(by omega), (by omega)⟩) ?_
                refine p_iload 122 rfl rfl rfl ?_
                refine p_iadd (z := (fr * 5) + (rl (cd h k sn))) 123 rfl rfl (w32_id ⟨(by omega), (by omega)⟩) ?_
                refine p_dup2 124 rfl rfl nl_i nl_r ?_
                refine p_lald (w := 20) (z := gv h2 25 ((fr * 5) + (rl (cd h k sn)))) 125 rfl rfl (tg_25 S2) (ln_25 S2) (by omega) (by omega) rfl ?_
                refine p_lconst 126 rfl rfl ?_
                refine p_iload 127 rfl rfl rfl ?_
                refine p_lshl (z := w64 (1 * 2 ^ (sn).toNat)) 128 rfl rfl (by omega) (by omega) rfl ?_
                refine p_lor (z := or64 (gv h2 25 ((fr * 5) + (rl (cd h k sn)))) (w64 (1 * 2 ^ (sn).toNat))) 129 rfl rfl rfl ?_
                refine p_last (w := 20) 130 rfl rfl (by decide) (tg_25 S2) (ln_25 S2) (by omega) (by omega) ?_
                refine p_nmh (fun y4 e4 => ?_)
                have S4 : Shape y4 := by rw [e4]; exact S2.svA fa_25 _ _
                have kp4 : Keep slA h y4 := by rw [e4]; exact k2.sv rfl _
                refine p_aload 131 rfl rfl rfl ?_
                refine p_getfr (j := 6) (z := 26) 134 rfl rfl rfl (tg_24 S4) rfl (fi_24_6 S4) ?_
                refine p_iload 136 rfl rfl rfl ?_
                refine p_const 137 rfl rfl ?_
                refine p_imul (z := fr * 5) 138 rfl rfl (w32_id ⟨(by omega), (by omega)⟩) ?_
                refine p_iload 139 rfl rfl rfl ?_
                refine p_iadd (z := (fr * 5) + (rl (cd h k sn))) 140 rfl rfl (w32_id ⟨(by omega), (by omega)⟩) ?_
                refine p_dup2 141 rfl rfl nl_i nl_r ?_
                refine p_lald (w := 20) (z := gv h2 26 ((fr * 5) + (rl (cd h k sn)))) 142 rfl rfl (tg_26 S4) (ln_26 S4) (by omega) (by omega) (by rw [e4, sv_ne (by decide)]) ?_
                refine p_lconst 143 rfl rfl ?_
                refine p_aload 144 rfl rfl rfl ?_
                refine p_getfr (j := 2) (z := a) 147 rfl rfl rfl (tg_24 S4) rfl ((kp4.1 _ _ rfl).trans hb) ?_
                refine p_getfr (j := 4) (z := a + 6) 150 rfl rfl rfl (B.kp kp4 slA_b).tag rfl (B.kp kp4 slA_b).f4 ?_
                refine p_iload 151 rfl rfl rfl ?_
                refine p_iald (w := (gv h 79 k)) (z := gv h (a + 6) sn) 152 rfl rfl ((B.kp kp4 slA_b).t6) ((B.kp kp4 slA_b).l6) (by omega) (by omega) (kp4.1 _ _ (slA_b _ _ (by have := B.ge; omega))) ?_
                refine p_lshl (z := w64 (1 * 2 ^ (gv h (a + 6) sn).toNat)) 153 rfl rfl (by omega) (by omega) rfl ?_
                refine p_lor (z := or64 (gv h2 26 ((fr * 5) + (rl (cd h k sn)))) (w64 (1 * 2 ^ (gv h (a + 6) sn).toNat))) 154 rfl rfl rfl ?_
                refine p_last (w := 20) 155 rfl rfl (by decide) (tg_26 S4) (ln_26 S4) (by omega) (by omega) ?_
                refine p_nmh (fun y5 e5 => ?_)
                have S5 : Shape y5 := by rw [e5]; exact S4.svA fa_26 _ _
                have kp5 : Keep slA h y5 := by rw [e5]; exact kp4.sv rfl _
                refine p_iinc (y := fr + 1) (ls' := [some (.inr (.inr 24)), some (.inl v), some (.inl sn), some (.inl (rl (cd h k sn))), some (.inl (fr + 1)), some (.inl (v / 2 ^ (5 * (((rl v) - fr) - (rl (cd h k sn)))).toNat))]) 158 rfl rfl rfl (w32_id ⟨(by omega), (by omega)⟩) rfl ?_
                refine p_goto 57 rfl rfl ?_
                -- leaf 4: loop 57 [some (.inr (.inr 24)), some (.inl v), some (.inl sn), some (.inl (rl (cd h k sn))), some (.inl (fr + 1)), some (.inl (v / 2 ^ (5 * (((rl v) - fr) - (rl (cd h k sn)))).toNat))] st=[] h=y5 e5,e4 kp5
                rw [msk (by omega) (by omega), i2] at c3
                have c4 : sub v (rl v) fr (rl (cd h k sn)) = cd h k sn := c3
                have c2 : bit (gv h 24 3) sn ≠ 0 := c2
                have b01 := bit_in (gv h 24 3) sn
                have u : Us h k s t z (sub v (rl v) fr (rl (cd h k sn))) sn := ⟨s0, by omega, by omega, c4.symm⟩
                refine ih2 (fr + 1) _ _ (by omega) (by omega) S5 kp5 (by rw [e5, e4, sv_ne (by decide), sv_ne (by decide)]; exact hn2) ?_
                refine SX.imp (X2.put (h2 := y5) g n40 rfl q0 (by omega) (by omega) u ?_ ?_ ?_) (fun f len j y0 y1 y2 u => by omega)
                · rw [e5, e4, sv_ne (by decide), sv_eq]
                · rw [e5, e4, sv_eq, ← fs]
                · intro i hi; rw [e5, e4]; exact ⟨by rw [sv_ne (by decide), sv_nf hi], by rw [sv_nf hi, sv_ne (by decide)]⟩
      refine p_aload 27 rfl rfl rfl ?_
      refine p_getfr (j := 2) (z := a) 30 rfl rfl rfl (tg_24 S1) rfl ((kp.1 _ _ rfl).trans hb) ?_
      refine p_ifnull 33 167 rfl rfl rfl (fun z => absurd z (by omega)) (fun c1 => ?_)
      refine p_iload 34 rfl rfl rfl ?_
      refine p_aload 35 rfl rfl rfl ?_
      refine p_getfr (j := 2) (z := a) 38 rfl rfl rfl (tg_24 S1) rfl ((kp.1 _ _ rfl).trans hb) ?_
      refine p_getfi (j := 0) (z := gv h a 0) 41 rfl rfl rfl (B.kp kp slA_b).tag rfl (kp.1 _ _ (slA_b _ _ B.ge)) ?_
      refine p_ic_ge_f 44 rfl rfl (by omega) ?_
      refine p_aload 45 rfl rfl rfl ?_
      refine p_getfr (j := 2) (z := a) 48 rfl rfl rfl (tg_24 S1) rfl ((kp.1 _ _ rfl).trans hb) ?_
      refine p_getfr (j := 3) (z := a + 5) 51 rfl rfl rfl (B.kp kp slA_b).tag rfl (B.kp kp slA_b).f3 ?_
      refine p_iload 52 rfl rfl rfl ?_
      refine p_iald (w := (gv h 79 k)) (z := gv h (a + 5) sn) 53 rfl rfl ((B.kp kp slA_b).t5) ((B.kp kp slA_b).l5) (by omega) (by omega) (kp.1 _ _ (slA_b _ _ (by have := B.ge; omega))) ?_
      refine p_istore (ls' := [some (.inr (.inr 24)), some (.inl v), some (.inl sn), some (.inl (gv h (a + 5) sn)), w2, w3]) 54 rfl rfl (Nat.le_of_ble_eq_true rfl) rfl ?_
      refine p_const 55 rfl rfl ?_
      refine p_istore (ls' := [some (.inr (.inr 24)), some (.inl v), some (.inl sn), some (.inl (gv h (a + 5) sn)), some (.inl 0), w3]) 57 rfl rfl (Nat.le_of_ble_eq_true rfl) rfl ?_
      -- leaf 1: loop 57 [some (.inr (.inr 24)), some (.inl v), some (.inl sn), some (.inl (gv h (a + 5) sn)), some (.inl 0), w3] st=[] h=h1  kp
      rw [i3]; exact inner (rl v + 1).toNat 0 _ h1 (by omega) (by omega) S1 kp hn (X.imp (fun f len j y0 y1 y2 u => by omega))
  refine p_aload 1 rfl rfl rfl ?_
  refine p_iload 2 rfl rfl rfl ?_
  refine p_calls (le := [some (.inl v)]) (as := [.inl v]) (rest := [.inr (.inr 24)]) 5 0 0 0 0 rfl rfl (Nat.le_of_ble_eq_true rfl) rfl (Nat.le_of_ble_eq_true rfl) rfl rfl (Nat.le_of_ble_eq_true rfl) rfl (Nat.le_of_ble_eq_true rfl) rfl (Nat.le_refl _) (Nat.le_refl _) rfl rfl ?_
  refine x_rl S v  ?_
  show Wp (d + 2) 0 0 M_X5_split 5 [some (.inr (.inr 24)), some (.inl v), none, none, none, none] [.inl (rl v), .inr (.inr 24)] h _
  refine p_putfi (j := 4) 8 rfl rfl rfl (fun z => absurd z (by decide)) (tg_24 S) rfl ?_
  refine p_nmh (fun y1 e1 => ?_)
  have S1 : Shape y1 := by rw [e1]; exact S.svF ff_24_4 _
  refine p_aload 9 rfl rfl rfl ?_
  refine p_getfr (j := 5) (z := 25) 12 rfl rfl rfl (tg_24 S1) rfl (fi_24_5 S1) ?_
  refine p_lconst 13 rfl rfl ?_
  refine p_calls (le := [some (.inr (.inr 25)), some (.inr (.inl 0)), none, none, none]) (as := [.inr (.inr 25), .inr (.inl 0)]) (rest := []) 16 0 0 0 0 rfl rfl (Nat.le_of_ble_eq_true rfl) rfl (Nat.le_of_ble_eq_true rfl) rfl rfl (Nat.le_of_ble_eq_true rfl) rfl (Nat.le_of_ble_eq_true rfl) rfl (Nat.le_refl _) (Nat.le_refl _) rfl rfl ?_
  refine x_fillL S1 25 0 (_) ((by decide)) (fa_25) ((tg_25 S1)) ((ln_25 S1)) ((by decide)) (fun y2 p2 S2 => ?_)
  show Wp (d + 2) 0 0 M_X5_split 16 [some (.inr (.inr 24)), some (.inl v), none, none, none, none] [] y2 _
  refine p_aload 17 rfl rfl rfl ?_
  refine p_getfr (j := 6) (z := 26) 20 rfl rfl rfl (tg_24 S2) rfl (fi_24_6 S2) ?_
  refine p_lconst 21 rfl rfl ?_
  refine p_calls (le := [some (.inr (.inr 26)), some (.inr (.inl 0)), none, none, none]) (as := [.inr (.inr 26), .inr (.inl 0)]) (rest := []) 24 0 0 0 0 rfl rfl (Nat.le_of_ble_eq_true rfl) rfl (Nat.le_of_ble_eq_true rfl) rfl rfl (Nat.le_of_ble_eq_true rfl) rfl (Nat.le_of_ble_eq_true rfl) rfl (Nat.le_refl _) (Nat.le_refl _) rfl rfl ?_
  refine x_fillL S2 26 0 (_) ((by decide)) (fa_26) ((tg_26 S2)) ((ln_26 S2)) ((by decide)) (fun y3 p3 S3 => ?_)
  show Wp (d + 2) 0 0 M_X5_split 24 [some (.inr (.inr 24)), some (.inl v), none, none, none, none] [] y3 _
  refine p_const 25 rfl rfl ?_
  refine p_istore (ls' := [some (.inr (.inr 24)), some (.inl v), some (.inl 0), none, none, none]) 26 rfl rfl (Nat.le_of_ble_eq_true rfl) rfl ?_
  -- leaf 1: loop 26 [some (.inr (.inr 24)), some (.inl v), some (.inl 0), none, none, none] st=[] h=y3 
  obtain ⟨u2, z2⟩ := p2
  obtain ⟨u3, z3⟩ := p3
  have k1 : Keep slA h y1 := by rw [e1]; exact (Keep.rf _ _).sv rfl _
  have k3 : Keep slA h y3 := (k1.trans (u2.wide (fun a i => dw (by omega)))).trans (u3.wide (fun a i => dw (by omega)))
  have e25 : ∀ i, gv y3 25 i = gv y2 25 i := fun i => u3.1 25 i rfl
  refine L (gv h 79 k).toNat 0 none none none _ (by omega) (by omega) S3 k3 (by rw [u3.1 24 4 rfl, u2.1 24 4 rfl, e1, sv_eq]) (fun fr len f0 l0 fl => ?_)
  rw [e25, z2 _ (by omega) (by omega), z3 _ (by omega) (by omega)]
  refine ⟨⟨by decide, by decide⟩, ⟨by decide, by decide⟩, fun j j0 j1 => ?_, fun id i0 i1 => ?_⟩
  · rw [bit_zero]; exact ⟨fun y => absurd y (by decide), fun y => by have := y.1.1; omega⟩
  · rw [bit_zero]; exact ⟨fun y => absurd y (by decide), fun ⟨j, y, _⟩ => by have := y.1.1; omega⟩

