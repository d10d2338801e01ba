/-! READS: all rows of names of a row of letters, model's side -/
def rdA (a i : Int) : Bool := decide ((a = 66 ∧ (i = 52 ∨ i = 56)) ∨ (102 ≤ a ∧ a ≤ 104))
theorem rdA_bkB : ∀ a i, bkB a i = false → rdA a i = false := fun a i => dw (by omega)
theorem rdA_mA : ∀ a i, mA a i = false → rdA a i = false := fun a i => dw (by omega)
theorem ctA_rdA : ∀ a i, rdA a i = false → ctA a i = false := fun a i => dw (by omega)
theorem adA_rdA : ∀ a i, rdA a i = false → adA a i = false := fun a i => dw (by omega)
def AtM (h : PH) (p x : Int) : Prop := (gv h 66 56 ≤ p ∧ x = 0) ∨ (p < gv h 66 56 ∧ bit (gv h 104 p) x = 1)
theorem AtM_congr {h h' : PH} (K : Keep adA h h') (p x : Int) : AtM h' p x ↔ AtM h p x := by
  unfold AtM
  rw [K.1 66 56 rfl, K.1 104 p rfl]
theorem m_isAt {d : Nat} {h : PH} {q : PQ} (S : Shape h) (p x : Int) (p0 : 0 ≤ p) (x0 : 0 ≤ x) (x1 : x < 40) (p4 : gv h 66 56 ≤ 4) (K1 : AtM h p x → q (some (.inl 1)) h) (K2 : ¬ AtM h p x → q (some (.inl 0)) h) :
    Wp (d + 1) 0 0 M_X12_isAt 0 [some (.inr (.inr 66)), some (.inl p), some (.inl x)] [] h q := by
  have bt : bit (gv h 104 p) x = gv h 104 p / 2 ^ x.toNat % 2 := rfl
  unfold AtM at K1 K2
  rw [bt] at K1 K2
  refine p_iload 1 rfl rfl rfl ?_
  refine p_aload 2 rfl rfl rfl ?_
  refine p_getfi (j := 56) (z := gv h 66 56) 5 rfl rfl rfl (tg_66 S) rfl rfl ?_
  refine p_ic_lt 8 20 rfl rfl rfl (fun c1 => ?_) (fun c1 => ?_)
  · skip
    refine p_aload 21 rfl rfl rfl ?_
    refine p_getfr (j := 55) (z := 104) 24 rfl rfl rfl (tg_66 S) rfl (fi_66_55 S) ?_
    refine p_iload 25 rfl rfl rfl ?_
    refine p_lald (w := 4) (z := gv h 104 p) 26 rfl rfl (tg_104 S) (ln_104 S) (by omega) (by omega) rfl ?_
    refine p_iload 27 rfl rfl rfl ?_
    refine p_lshr (z := (gv h 104 p) / 2 ^ (x).toNat) 28 rfl rfl (by omega) (by omega) rfl ?_
    refine p_lconst 29 rfl rfl ?_
    refine p_land (z := ((gv h 104 p) / 2 ^ (x).toNat) % 2) 30 rfl rfl (mask64 1 rfl (by decide)) ?_
    refine p_lconst 31 rfl rfl ?_
    refine p_lc_ne 32 35 39 rfl rfl rfl rfl rfl (fun c2 => ?_) (fun c2 => ?_)
    · skip
      refine p_const 40 rfl rfl ?_
      refine p_zret rfl rfl (by decide) ?_
      -- leaf 1: answer [.inl 0] h=h 
      first | exact K1 (by omega) | exact K2 (by omega)
    · skip
      refine p_const 36 rfl rfl ?_
      refine p_goto 40 rfl rfl ?_
      refine p_zret rfl rfl (by decide) ?_
      -- leaf 2: answer [.inl 1] h=h 
      first | exact K1 (by omega) | exact K2 (by omega)
  · skip
    refine p_iload 9 rfl rfl rfl ?_
    refine p_if_ne 12 16 rfl rfl rfl (fun c3 => ?_) (fun c3 => ?_)
    · skip
      refine p_const 17 rfl rfl ?_
      refine p_goto 40 rfl rfl ?_
      refine p_zret rfl rfl (by decide) ?_
      -- leaf 3: answer [.inl 0] h=h 
      first | exact K1 (by omega) | exact K2 (by omega)
    · skip
      refine p_const 13 rfl rfl ?_
      refine p_goto 40 rfl rfl ?_
      refine p_zret rfl rfl (by decide) ?_
      -- leaf 4: answer [.inl 1] h=h 
      first | exact K1 (by omega) | exact K2 (by omega)
/-- the row of the first m of four names -/
abbrev r4 (m : Nat) (a b c e : Int) : List Int := List.take m [a, b, c, e]
theorem r4_pad {h : PH} {m : Nat} {a b c e : Int} (hm : gv h 66 56 = m) (m1 : 1 ≤ m) (m4 : m ≤ 4) (hb : AtM h 1 b) (hc : AtM h 2 c) (he : AtM h 3 e) : (r4 m a b c e).length = m ∧ pad (r4 m a b c e) 0 = a ∧ pad (r4 m a b c e) 1 = b ∧ pad (r4 m a b c e) 2 = c ∧ pad (r4 m a b c e) 3 = e := by
  unfold AtM at hb hc he
  rcases (show m = 1 ∨ m = 2 ∨ m = 3 ∨ m = 4 by omega) with rfl | rfl | rfl | rfl
  · have b0 : b = 0 := by omega
    have c0 : c = 0 := by omega
    have e0 : e = 0 := by omega
    subst b0; subst c0; subst e0
    exact ⟨rfl, rfl, rfl, rfl, rfl⟩
  · have c0 : c = 0 := by omega
    have e0 : e = 0 := by omega
    subst c0; subst e0
    exact ⟨rfl, rfl, rfl, rfl, rfl⟩
  · have e0 : e = 0 := by omega
    subst e0
    exact ⟨rfl, rfl, rfl, rfl, rfl⟩
  · exact ⟨rfl, rfl, rfl, rfl, rfl⟩
theorem r4_ok {m : Nat} {a b c e : Int} (m4 : m ≤ 4) (ha : 0 ≤ a ∧ a < 40) (hb : 0 ≤ b ∧ b < 40) (hc : 0 ≤ c ∧ c < 40) (he : 0 ≤ e ∧ e < 40) : okl (r4 m a b c e) := by
  refine ⟨Nat.le_trans (List.length_take_le m _) m4, fun x hx => ?_⟩
  have hx := List.mem_of_mem_take hx
  simp only [List.mem_cons, List.not_mem_nil, or_false] at hx
  omega
def Qd (h : PH) (m : Nat) (a b c : Int) (l : List Int) : Prop := ∃ e, (0 ≤ e ∧ e < 40) ∧ AtM h 2 c ∧ AtM h 3 e ∧ l = r4 m a b c e
def Qc (h : PH) (m : Nat) (a b : Int) (l : List Int) : Prop := ∃ c, (0 ≤ c ∧ c < 40) ∧ AtM h 1 b ∧ Qd h m a b c l
def Qb (h : PH) (m : Nat) (a : Int) (l : List Int) : Prop := ∃ b, (0 ≤ b ∧ b < 40) ∧ AtM h 0 a ∧ Qc h m a b l
def Qa (h : PH) (m : Nat) (l : List Int) : Prop := ∃ a, (0 ≤ a ∧ a < 40) ∧ Qb h m a l
section LOOPS
variable {d : Nat} {h : PH} {q : PQ} {v most w : Int} {lim m : Nat}
theorem rd_d (hm : gv h 66 56 = m) (m1 : 1 ≤ m) (m4 : m ≤ 4) (hl : most = lim) {a b c : Int} (ha : 0 ≤ a ∧ a < 40) (hb : 0 ≤ b ∧ b < 40) (hc : 0 ≤ c ∧ c < 40) (Ab : AtM h 1 b)
    {L0 : List (List Int)} {h1 : PH} (S1 : Shape h1) (k1 : Keep adA h h1) (R1 : RowsM h1 L0 lim)
    (KD : ∀ (x : Option PV) L' h', Shape h' → Keep adA h h' → RowsM h' L' lim → Ext L0 L' lim (Qd h m a b c) → Wp (d + 2) 0 0 M_X12_reads 161 [some (.inr (.inr 66)), some (.inl v), some (.inl most), some (.inl w), some (.inl a), some (.inl b), some (.inl c), x] [] h' q) :
    Wp (d + 2) 0 0 M_X12_reads 108 [some (.inr (.inr 66)), some (.inl v), some (.inl most), some (.inl w), some (.inl a), some (.inl b), some (.inl c), some (.inl 0)] [] h1 q := by
  have J : ∀ (n : Nat) (e : Int) (L1 : List (List Int)) (h2 : PH), e + n = 40 → 0 ≤ e → Shape h2 → Keep adA h h2 → RowsM h2 L1 lim → Ext L0 L1 lim (fun l => ∃ e', (0 ≤ e' ∧ e' < e) ∧ AtM h 2 c ∧ AtM h 3 e' ∧ l = r4 m a b c e') →
      Wp (d + 2) 0 0 M_X12_reads 108 [some (.inr (.inr 66)), some (.inl v), some (.inl most), some (.inl w), some (.inl a), some (.inl b), some (.inl c), some (.inl e)] [] h2 q := by
    intro n
    induction n with
    | zero =>
      intro e L1 h2 hn e0 S2 k2 R2 X
      refine p_iload 110 rfl rfl rfl ?_
      refine p_const 112 rfl rfl ?_
      refine p_ic_ge_t 161 rfl rfl (by omega) ?_
      -- leaf 1: loop 161 [some (.inr (.inr 66)), some (.inl v), some (.inl most), some (.inl w), some (.inl a), some (.inl b), some (.inl c), some (.inl e)] st=[] h=h2 
      exact KD _ L1 h2 S2 k2 R2 (X.imp (fun l => ⟨fun ⟨x, p, y⟩ => ⟨x, by omega, y⟩, fun ⟨x, p, y⟩ => ⟨x, by omega, y⟩⟩))
    | succ n ih =>
      intro e L1 h2 hn e0 S2 k2 R2 X
      have r1 := R2.1
      have p4 : gv h2 66 56 ≤ 4 := by rw [k2.1 66 56 rfl, hm]; omega
      have d2 := AtM_congr k2 2 c
      have d3 := AtM_congr k2 3 e
      have full : ∀ L2, Ext L0 L2 lim (fun l => ∃ e', (0 ≤ e' ∧ e' < e) ∧ AtM h 2 c ∧ AtM h 3 e' ∧ l = r4 m a b c e') → lim ≤ L2.length → Ext L0 L2 lim (fun l => ∃ e', (0 ≤ e' ∧ e' < 40) ∧ AtM h 2 c ∧ AtM h 3 e' ∧ l = r4 m a b c e') := fun L2 X2 f => X2.full f (fun l ⟨x, p, y⟩ => ⟨x, by omega, y⟩)
      refine p_iload 110 rfl rfl rfl ?_
      refine p_const 112 rfl rfl ?_
      refine p_ic_ge_f 115 rfl rfl (by omega) ?_
      refine p_aload 116 rfl rfl rfl ?_
      refine p_getfi (j := 52) (z := (L1.length : Int)) 119 rfl rfl rfl (tg_66 S2) rfl r1 ?_
      refine p_iload 120 rfl rfl rfl ?_
      refine p_ic_ge 123 161 rfl rfl rfl (fun c1 => ?_) (fun c1 => ?_)
      · skip
        -- leaf 1: loop 161 [some (.inr (.inr 66)), some (.inl v), some (.inl most), some (.inl w), some (.inl a), some (.inl b), some (.inl c), some (.inl e)] st=[] h=h2 
        exact KD _ L1 h2 S2 k2 R2 (full L1 X (by omega))
      · skip
        refine p_aload 124 rfl rfl rfl ?_
        refine p_const 125 rfl rfl ?_
        refine p_iload 127 rfl rfl rfl ?_
        refine p_callv (le := [some (.inr (.inr 66)), some (.inl 2), some (.inl c)]) (as := [.inr (.inr 66), .inl 2, .inl c]) (rest := []) 130 0 0 0 0 rfl rfl (Nat.le_of_ble_eq_true rfl) rfl (Nat.le_of_ble_eq_true rfl) rfl rfl (Nat.le_of_ble_eq_true rfl) rfl (Nat.le_of_ble_eq_true rfl) rfl (Nat.le_refl _) (Nat.le_refl _) rfl rfl (tg_66 S2) ?_
        refine m_isAt S2 2 c (by omega) (by omega) (by omega) p4 (fun c2 => ?_) (fun c2 => ?_)
        · show Wp (d + 2) 0 0 M_X12_reads 130 [some (.inr (.inr 66)), some (.inl v), some (.inl most), some (.inl w), some (.inl a), some (.inl b), some (.inl c), some (.inl e)] [.inl 1] h2 _
          refine p_if_eq_f 133 rfl rfl (by decide) ?_
          refine p_aload 134 rfl rfl rfl ?_
          refine p_const 135 rfl rfl ?_
          refine p_iload 137 rfl rfl rfl ?_
          refine p_callv (le := [some (.inr (.inr 66)), some (.inl 3), some (.inl e)]) (as := [.inr (.inr 66), .inl 3, .inl e]) (rest := []) 140 0 0 0 0 rfl rfl (Nat.le_of_ble_eq_true rfl) rfl (Nat.le_of_ble_eq_true rfl) rfl rfl (Nat.le_of_ble_eq_true rfl) rfl (Nat.le_of_ble_eq_true rfl) rfl (Nat.le_refl _) (Nat.le_refl _) rfl rfl (tg_66 S2) ?_
          refine m_isAt S2 3 e (by omega) (by omega) (by omega) p4 (fun c3 => ?_) (fun c3 => ?_)
          · show Wp (d + 2) 0 0 M_X12_reads 140 [some (.inr (.inr 66)), some (.inl v), some (.inl most), some (.inl w), some (.inl a), some (.inl b), some (.inl c), some (.inl e)] [.inl 1] h2 _
            refine p_if_eq_f 143 rfl rfl (by decide) ?_
            have RP := r4_pad (a := a) hm m1 m4 Ab (d2.1 c2) (d3.1 c3)
            refine p_aload 144 rfl rfl rfl ?_
            refine p_iload 146 rfl rfl rfl ?_
            refine p_iload 148 rfl rfl rfl ?_
            refine p_iload 150 rfl rfl rfl ?_
            refine p_iload 152 rfl rfl rfl ?_
            refine p_callv (le := [some (.inr (.inr 66)), some (.inl a), some (.inl b), some (.inl c), some (.inl e), none]) (as := [.inr (.inr 66), .inl a, .inl b, .inl c, .inl e]) (rest := []) 155 0 0 0 0 rfl rfl (Nat.le_of_ble_eq_true rfl) rfl (Nat.le_of_ble_eq_true rfl) rfl rfl (Nat.le_of_ble_eq_true rfl) rfl (Nat.le_of_ble_eq_true rfl) rfl (Nat.le_refl _) (Nat.le_refl _) rfl rfl (tg_66 S2) ?_
            refine m_adds S2 a b c e (l := r4 m a b c e) (r4_ok m4 ha hb hc (by omega)) (by rw [RP.1]; exact (k2.1 66 56 rfl).trans hm) RP.2.1 RP.2.2.1 RP.2.2.2.1 RP.2.2.2.2 R2 (by omega) (fun y4 p4 S4 => ?_)
            show Wp (d + 2) 0 0 M_X12_reads 155 [some (.inr (.inr 66)), some (.inl v), some (.inl most), some (.inl w), some (.inl a), some (.inl b), some (.inl c), some (.inl e)] [] y4 _
            refine p_iinc (y := e + 1) (ls' := [some (.inr (.inr 66)), some (.inl v), some (.inl most), some (.inl w), some (.inl a), some (.inl b), some (.inl c), some (.inl (e + 1))]) 158 rfl rfl rfl (w32_id ⟨(by omega), (by omega)⟩) rfl ?_
            refine p_goto 108 rfl rfl ?_
            -- leaf 2: loop 108 [some (.inr (.inr 66)), some (.inl v), some (.inl most), some (.inl w), some (.inl a), some (.inl b), some (.inl c), some (.inl (e + 1))] st=[] h=y4 
            obtain ⟨k4, L', q2, q3⟩ := p4
            refine ih (e + 1) L' _ (by omega) (by omega) S4 (k2.trans k4) q2 ((X.trans q3).imp (fun l => ⟨?_, ?_⟩))
            · rintro (⟨x, p, y⟩ | y)
              · exact ⟨x, by omega, y⟩
              · exact ⟨e, by omega, d2.1 c2, d3.1 c3, y⟩
            · rintro ⟨x, p, y⟩
              by_cases z : x = e
              · rw [z] at y; exact Or.inr y.2.2
              · exact Or.inl ⟨x, by omega, y⟩
          · show Wp (d + 2) 0 0 M_X12_reads 140 [some (.inr (.inr 66)), some (.inl v), some (.inl most), some (.inl w), some (.inl a), some (.inl b), some (.inl c), some (.inl e)] [.inl 0] h2 _
            refine p_if_eq_t 155 rfl rfl (by decide) ?_
            refine p_iinc (y := e + 1) (ls' := [some (.inr (.inr 66)), some (.inl v), some (.inl most), some (.inl w), some (.inl a), some (.inl b), some (.inl c), some (.inl (e + 1))]) 158 rfl rfl rfl (w32_id ⟨(by omega), (by omega)⟩) rfl ?_
            refine p_goto 108 rfl rfl ?_
            -- leaf 3: loop 108 [some (.inr (.inr 66)), some (.inl v), some (.inl most), some (.inl w), some (.inl a), some (.inl b), some (.inl c), some (.inl (e + 1))] st=[] h=h2 
            refine ih (e + 1) L1 h2 (by omega) (by omega) S2 k2 R2 (X.imp (fun l => ⟨fun ⟨x, p, y⟩ => ⟨x, by omega, y⟩, fun ⟨x, p, y⟩ => ?_⟩))
            by_cases z : x = e
            · rw [z] at y; exact absurd (d3.2 y.2.1) c3
            · exact ⟨x, by omega, y⟩
        · show Wp (d + 2) 0 0 M_X12_reads 130 [some (.inr (.inr 66)), some (.inl v), some (.inl most), some (.inl w), some (.inl a), some (.inl b), some (.inl c), some (.inl e)] [.inl 0] h2 _
          refine p_if_eq_t 161 rfl rfl (by decide) ?_
          -- leaf 4: loop 161 [some (.inr (.inr 66)), some (.inl v), some (.inl most), some (.inl w), some (.inl a), some (.inl b), some (.inl c), some (.inl e)] st=[] h=h2 
          exact KD _ L1 h2 S2 k2 R2 (X.imp (fun l => ⟨fun ⟨x, p, y⟩ => ⟨x, by omega, y⟩, fun ⟨x, p, y⟩ => absurd (d2.2 y.1) c2⟩))
  refine J 40 0 L0 h1 rfl (Int.le_refl 0) S1 k1 R1 ((Ext.refl R1.2.1 R1.2.2.1).imp (fun l => ⟨False.elim, fun ⟨x, p, y⟩ => by omega⟩))
theorem rd_c (hm : gv h 66 56 = m) (m1 : 1 ≤ m) (m4 : m ≤ 4) (hl : most = lim) {a b : Int} (ha : 0 ≤ a ∧ a < 40) (hb : 0 ≤ b ∧ b < 40)
    {L0 : List (List Int)} {h1 : PH} (S1 : Shape h1) (k1 : Keep adA h h1) (R1 : RowsM h1 L0 lim) (w0 : Option PV)
    (KD : ∀ (x0 x1 : Option PV) L' h', Shape h' → Keep adA h h' → RowsM h' L' lim → Ext L0 L' lim (Qc h m a b) → Wp (d + 2) 0 0 M_X12_reads 167 [some (.inr (.inr 66)), some (.inl v), some (.inl most), some (.inl w), some (.inl a), some (.inl b), x0, x1] [] h' q) :
    Wp (d + 2) 0 0 M_X12_reads 80 [some (.inr (.inr 66)), some (.inl v), some (.inl most), some (.inl w), some (.inl a), some (.inl b), some (.inl 0), w0] [] h1 q := by
  have J : ∀ (n : Nat) (c : Int) (w0 : Option PV) (L1 : List (List Int)) (h2 : PH), c + n = 40 → 0 ≤ c → Shape h2 → Keep adA h h2 → RowsM h2 L1 lim → Ext L0 L1 lim (fun l => ∃ c', (0 ≤ c' ∧ c' < c) ∧ AtM h 1 b ∧ Qd h m a b c' l) →
      Wp (d + 2) 0 0 M_X12_reads 80 [some (.inr (.inr 66)), some (.inl v), some (.inl most), some (.inl w), some (.inl a), some (.inl b), some (.inl c), w0] [] h2 q := by
    intro n
    induction n with
    | zero =>
      intro c w0 L1 h2 hn e0 S2 k2 R2 X
      refine p_iload 82 rfl rfl rfl ?_
      refine p_const 84 rfl rfl ?_
      refine p_ic_ge_t 167 rfl rfl (by omega) ?_
      -- leaf 1: loop 167 [some (.inr (.inr 66)), some (.inl v), some (.inl most), some (.inl w), some (.inl a), some (.inl b), some (.inl c), w0] st=[] h=h2 
      exact KD _ _ L1 h2 S2 k2 R2 (X.imp (fun l => ⟨fun ⟨x, p, y⟩ => ⟨x, by omega, y⟩, fun ⟨x, p, y⟩ => ⟨x, by omega, y⟩⟩))
    | succ n ih =>
      intro c w0 L1 h2 hn e0 S2 k2 R2 X
      have r1 := R2.1
      have p4 : gv h2 66 56 ≤ 4 := by rw [k2.1 66 56 rfl, hm]; omega
      have dg := AtM_congr k2 1 b
      have full : ∀ L2, Ext L0 L2 lim (fun l => ∃ c', (0 ≤ c' ∧ c' < c) ∧ AtM h 1 b ∧ Qd h m a b c' l) → lim ≤ L2.length → Ext L0 L2 lim (fun l => ∃ c', (0 ≤ c' ∧ c' < 40) ∧ AtM h 1 b ∧ Qd h m a b c' l) := fun L2 X2 f => X2.full f (fun l ⟨x, p, y⟩ => ⟨x, by omega, y⟩)
      have step : AtM h 1 b → ∀ (z0 : Option PV) (L' : List (List Int)) (h' : PH), Shape h' → Keep adA h h' → RowsM h' L' lim → Ext L1 L' lim (Qd h m a b c) → Wp (d + 2) 0 0 M_X12_reads 161 [some (.inr (.inr 66)), some (.inl v), some (.inl most), some (.inl w), some (.inl a), some (.inl b), some (.inl c), z0] [] h' q := by
        intro ag z0 L' h' S' k' R' X'
        refine p_iinc (y := c + 1) (ls' := [some (.inr (.inr 66)), some (.inl v), some (.inl most), some (.inl w), some (.inl a), some (.inl b), some (.inl (c + 1)), z0]) 164 rfl rfl rfl (w32_id ⟨(by omega), (by omega)⟩) rfl ?_
        refine p_goto 80 rfl rfl ?_
        -- leaf 1: loop 80 [some (.inr (.inr 66)), some (.inl v), some (.inl most), some (.inl w), some (.inl a), some (.inl b), some (.inl (c + 1)), z0] st=[] h=h' 
        refine ih (c + 1) _ L' h' (by omega) (by omega) S' k' R' ((X.trans X').imp (fun l => ⟨?_, ?_⟩))
        · rintro (⟨x, p, y⟩ | y)
          · exact ⟨x, by omega, y⟩
          · exact ⟨c, by omega, ag, y⟩
        · rintro ⟨x, p, y⟩
          by_cases z : x = c
          · rw [z] at y; exact Or.inr y.2
          · exact Or.inl ⟨x, by omega, y⟩
      refine p_iload 82 rfl rfl rfl ?_
      refine p_const 84 rfl rfl ?_
      refine p_ic_ge_f 87 rfl rfl (by omega) ?_
      refine p_aload 88 rfl rfl rfl ?_
      refine p_getfi (j := 52) (z := (L1.length : Int)) 91 rfl rfl rfl (tg_66 S2) rfl r1 ?_
      refine p_iload 92 rfl rfl rfl ?_
      refine p_ic_ge 95 167 rfl rfl rfl (fun c1 => ?_) (fun c1 => ?_)
      · skip
        -- leaf 1: loop 167 [some (.inr (.inr 66)), some (.inl v), some (.inl most), some (.inl w), some (.inl a), some (.inl b), some (.inl c), w0] st=[] h=h2 
        exact KD _ _ L1 h2 S2 k2 R2 (full L1 X (by omega))
      · skip
        refine p_aload 96 rfl rfl rfl ?_
        refine p_const 97 rfl rfl ?_
        refine p_iload 99 rfl rfl rfl ?_
        refine p_callv (le := [some (.inr (.inr 66)), some (.inl 1), some (.inl b)]) (as := [.inr (.inr 66), .inl 1, .inl b]) (rest := []) 102 0 0 0 0 rfl rfl (Nat.le_of_ble_eq_true rfl) rfl (Nat.le_of_ble_eq_true rfl) rfl rfl (Nat.le_of_ble_eq_true rfl) rfl (Nat.le_of_ble_eq_true rfl) rfl (Nat.le_refl _) (Nat.le_refl _) rfl rfl (tg_66 S2) ?_
        refine m_isAt S2 1 b (by omega) (by omega) (by omega) p4 (fun c2 => ?_) (fun c2 => ?_)
        · show Wp (d + 2) 0 0 M_X12_reads 102 [some (.inr (.inr 66)), some (.inl v), some (.inl most), some (.inl w), some (.inl a), some (.inl b), some (.inl c), w0] [.inl 1] h2 _
          refine p_if_eq_f 105 rfl rfl (by decide) ?_
          refine p_const 106 rfl rfl ?_
          refine p_istore (ls' := [some (.inr (.inr 66)), some (.inl v), some (.inl most), some (.inl w), some (.inl a), some (.inl b), some (.inl c), some (.inl 0)]) 108 rfl rfl (Nat.le_of_ble_eq_true rfl) rfl ?_
          -- leaf 2: loop 108 [some (.inr (.inr 66)), some (.inl v), some (.inl most), some (.inl w), some (.inl a), some (.inl b), some (.inl c), some (.inl 0)] st=[] h=h2 
          exact rd_d hm m1 m4 hl ha hb ⟨by omega, by omega⟩ (dg.1 c2) S2 k2 R2 (step (dg.1 c2))
        · show Wp (d + 2) 0 0 M_X12_reads 102 [some (.inr (.inr 66)), some (.inl v), some (.inl most), some (.inl w), some (.inl a), some (.inl b), some (.inl c), w0] [.inl 0] h2 _
          refine p_if_eq_t 167 rfl rfl (by decide) ?_
          -- leaf 3: loop 167 [some (.inr (.inr 66)), some (.inl v), some (.inl most), some (.inl w), some (.inl a), some (.inl b), some (.inl c), w0] st=[] h=h2 
          exact KD _ _ L1 h2 S2 k2 R2 (X.imp (fun l => ⟨fun ⟨x, p, y⟩ => ⟨x, by omega, y⟩, fun ⟨x, p, y⟩ => absurd (dg.2 y.1) c2⟩))
  refine J 40 0 w0 L0 h1 rfl (Int.le_refl 0) S1 k1 R1 ((Ext.refl R1.2.1 R1.2.2.1).imp (fun l => ⟨False.elim, fun ⟨x, p, y⟩ => by omega⟩))
theorem rd_b (hm : gv h 66 56 = m) (m1 : 1 ≤ m) (m4 : m ≤ 4) (hl : most = lim) {a : Int} (ha : 0 ≤ a ∧ a < 40)
    {L0 : List (List Int)} {h1 : PH} (S1 : Shape h1) (k1 : Keep adA h h1) (R1 : RowsM h1 L0 lim) (w0 : Option PV) (w1 : Option PV)
    (KD : ∀ (x0 x1 x2 : Option PV) L' h', Shape h' → Keep adA h h' → RowsM h' L' lim → Ext L0 L' lim (Qb h m a) → Wp (d + 2) 0 0 M_X12_reads 173 [some (.inr (.inr 66)), some (.inl v), some (.inl most), some (.inl w), some (.inl a), x0, x1, x2] [] h' q) :
    Wp (d + 2) 0 0 M_X12_reads 52 [some (.inr (.inr 66)), some (.inl v), some (.inl most), some (.inl w), some (.inl a), some (.inl 0), w0, w1] [] h1 q := by
  have J : ∀ (n : Nat) (b : Int) (w0 : Option PV) (w1 : Option PV) (L1 : List (List Int)) (h2 : PH), b + n = 40 → 0 ≤ b → Shape h2 → Keep adA h h2 → RowsM h2 L1 lim → Ext L0 L1 lim (fun l => ∃ b', (0 ≤ b' ∧ b' < b) ∧ AtM h 0 a ∧ Qc h m a b' l) →
      Wp (d + 2) 0 0 M_X12_reads 52 [some (.inr (.inr 66)), some (.inl v), some (.inl most), some (.inl w), some (.inl a), some (.inl b), w0, w1] [] h2 q := by
    intro n
    induction n with
    | zero =>
      intro b w0 w1 L1 h2 hn e0 S2 k2 R2 X
      refine p_iload 54 rfl rfl rfl ?_
      refine p_const 56 rfl rfl ?_
      refine p_ic_ge_t 173 rfl rfl (by omega) ?_
      -- leaf 1: loop 173 [some (.inr (.inr 66)), some (.inl v), some (.inl most), some (.inl w), some (.inl a), some (.inl b), w0, w1] st=[] h=h2 
      exact KD _ _ _ L1 h2 S2 k2 R2 (X.imp (fun l => ⟨fun ⟨x, p, y⟩ => ⟨x, by omega, y⟩, fun ⟨x, p, y⟩ => ⟨x, by omega, y⟩⟩))
    | succ n ih =>
      intro b w0 w1 L1 h2 hn e0 S2 k2 R2 X
      have r1 := R2.1
      have p4 : gv h2 66 56 ≤ 4 := by rw [k2.1 66 56 rfl, hm]; omega
      have dg := AtM_congr k2 0 a
      have full : ∀ L2, Ext L0 L2 lim (fun l => ∃ b', (0 ≤ b' ∧ b' < b) ∧ AtM h 0 a ∧ Qc h m a b' l) → lim ≤ L2.length → Ext L0 L2 lim (fun l => ∃ b', (0 ≤ b' ∧ b' < 40) ∧ AtM h 0 a ∧ Qc h m a b' l) := fun L2 X2 f => X2.full f (fun l ⟨x, p, y⟩ => ⟨x, by omega, y⟩)
      have step : AtM h 0 a → ∀ (z0 z1 : Option PV) (L' : List (List Int)) (h' : PH), Shape h' → Keep adA h h' → RowsM h' L' lim → Ext L1 L' lim (Qc h m a b) → Wp (d + 2) 0 0 M_X12_reads 167 [some (.inr (.inr 66)), some (.inl v), some (.inl most), some (.inl w), some (.inl a), some (.inl b), z0, z1] [] h' q := by
        intro ag z0 z1 L' h' S' k' R' X'
        refine p_iinc (y := b + 1) (ls' := [some (.inr (.inr 66)), some (.inl v), some (.inl most), some (.inl w), some (.inl a), some (.inl (b + 1)), z0, z1]) 170 rfl rfl rfl (w32_id ⟨(by omega), (by omega)⟩) rfl ?_
        refine p_goto 52 rfl rfl ?_
        -- leaf 1: loop 52 [some (.inr (.inr 66)), some (.inl v), some (.inl most), some (.inl w), some (.inl a), some (.inl (b + 1)), z0, z1] st=[] h=h' 
        refine ih (b + 1) _ _ L' h' (by omega) (by omega) S' k' R' ((X.trans X').imp (fun l => ⟨?_, ?_⟩))
        · rintro (⟨x, p, y⟩ | y)
          · exact ⟨x, by omega, y⟩
          · exact ⟨b, by omega, ag, y⟩
        · rintro ⟨x, p, y⟩
          by_cases z : x = b
          · rw [z] at y; exact Or.inr y.2
          · exact Or.inl ⟨x, by omega, y⟩
      refine p_iload 54 rfl rfl rfl ?_
      refine p_const 56 rfl rfl ?_
      refine p_ic_ge_f 59 rfl rfl (by omega) ?_
      refine p_aload 60 rfl rfl rfl ?_
      refine p_getfi (j := 52) (z := (L1.length : Int)) 63 rfl rfl rfl (tg_66 S2) rfl r1 ?_
      refine p_iload 64 rfl rfl rfl ?_
      refine p_ic_ge 67 173 rfl rfl rfl (fun c1 => ?_) (fun c1 => ?_)
      · skip
        -- leaf 1: loop 173 [some (.inr (.inr 66)), some (.inl v), some (.inl most), some (.inl w), some (.inl a), some (.inl b), w0, w1] st=[] h=h2 
        exact KD _ _ _ L1 h2 S2 k2 R2 (full L1 X (by omega))
      · skip
        refine p_aload 68 rfl rfl rfl ?_
        refine p_const 69 rfl rfl ?_
        refine p_iload 71 rfl rfl rfl ?_
        refine p_callv (le := [some (.inr (.inr 66)), some (.inl 0), some (.inl a)]) (as := [.inr (.inr 66), .inl 0, .inl a]) (rest := []) 74 0 0 0 0 rfl rfl (Nat.le_of_ble_eq_true rfl) rfl (Nat.le_of_ble_eq_true rfl) rfl rfl (Nat.le_of_ble_eq_true rfl) rfl (Nat.le_of_ble_eq_true rfl) rfl (Nat.le_refl _) (Nat.le_refl _) rfl rfl (tg_66 S2) ?_
        refine m_isAt S2 0 a (by omega) (by omega) (by omega) p4 (fun c2 => ?_) (fun c2 => ?_)
        · show Wp (d + 2) 0 0 M_X12_reads 74 [some (.inr (.inr 66)), some (.inl v), some (.inl most), some (.inl w), some (.inl a), some (.inl b), w0, w1] [.inl 1] h2 _
          refine p_if_eq_f 77 rfl rfl (by decide) ?_
          refine p_const 78 rfl rfl ?_
          refine p_istore (ls' := [some (.inr (.inr 66)), some (.inl v), some (.inl most), some (.inl w), some (.inl a), some (.inl b), some (.inl 0), w1]) 80 rfl rfl (Nat.le_of_ble_eq_true rfl) rfl ?_
          -- leaf 2: loop 80 [some (.inr (.inr 66)), some (.inl v), some (.inl most), some (.inl w), some (.inl a), some (.inl b), some (.inl 0), w1] st=[] h=h2 
          exact rd_c hm m1 m4 hl ha ⟨by omega, by omega⟩ S2 k2 R2 _ (step (dg.1 c2))
        · show Wp (d + 2) 0 0 M_X12_reads 74 [some (.inr (.inr 66)), some (.inl v), some (.inl most), some (.inl w), some (.inl a), some (.inl b), w0, w1] [.inl 0] h2 _
          refine p_if_eq_t 173 rfl rfl (by decide) ?_
          -- leaf 3: loop 173 [some (.inr (.inr 66)), some (.inl v), some (.inl most), some (.inl w), some (.inl a), some (.inl b), w0, w1] st=[] h=h2 
          exact KD _ _ _ L1 h2 S2 k2 R2 (X.imp (fun l => ⟨fun ⟨x, p, y⟩ => ⟨x, by omega, y⟩, fun ⟨x, p, y⟩ => absurd (dg.2 y.1) c2⟩))
  refine J 40 0 w0 w1 L0 h1 rfl (Int.le_refl 0) S1 k1 R1 ((Ext.refl R1.2.1 R1.2.2.1).imp (fun l => ⟨False.elim, fun ⟨x, p, y⟩ => by omega⟩))
theorem rd_a (hm : gv h 66 56 = m) (m1 : 1 ≤ m) (m4 : m ≤ 4) (hl : most = lim) 
    {L0 : List (List Int)} {h1 : PH} (S1 : Shape h1) (k1 : Keep adA h h1) (R1 : RowsM h1 L0 lim) (w0 : Option PV) (w1 : Option PV) (w2 : Option PV)
    (KD : ∀ (x0 x1 x2 x3 : Option PV) L' h', Shape h' → Keep adA h h' → RowsM h' L' lim → Ext L0 L' lim (Qa h m) → Wp (d + 2) 0 0 M_X12_reads 179 [some (.inr (.inr 66)), some (.inl v), some (.inl most), some (.inl w), x0, x1, x2, x3] [] h' q) :
    Wp (d + 2) 0 0 M_X12_reads 34 [some (.inr (.inr 66)), some (.inl v), some (.inl most), some (.inl w), some (.inl 0), w0, w1, w2] [] h1 q := by
  have J : ∀ (n : Nat) (a : Int) (w0 : Option PV) (w1 : Option PV) (w2 : Option PV) (L1 : List (List Int)) (h2 : PH), a + n = 40 → 0 ≤ a → Shape h2 → Keep adA h h2 → RowsM h2 L1 lim → Ext L0 L1 lim (fun l => ∃ a', (0 ≤ a' ∧ a' < a) ∧ Qb h m a' l) →
      Wp (d + 2) 0 0 M_X12_reads 34 [some (.inr (.inr 66)), some (.inl v), some (.inl most), some (.inl w), some (.inl a), w0, w1, w2] [] h2 q := by
    intro n
    induction n with
    | zero =>
      intro a w0 w1 w2 L1 h2 hn e0 S2 k2 R2 X
      refine p_iload 36 rfl rfl rfl ?_
      refine p_const 38 rfl rfl ?_
      refine p_ic_ge_t 179 rfl rfl (by omega) ?_
      -- leaf 1: loop 179 [some (.inr (.inr 66)), some (.inl v), some (.inl most), some (.inl w), some (.inl a), w0, w1, w2] st=[] h=h2 
      exact KD _ _ _ _ L1 h2 S2 k2 R2 (X.imp (fun l => ⟨fun ⟨x, p, y⟩ => ⟨x, by omega, y⟩, fun ⟨x, p, y⟩ => ⟨x, by omega, y⟩⟩))
    | succ n ih =>
      intro a w0 w1 w2 L1 h2 hn e0 S2 k2 R2 X
      have r1 := R2.1
      have p4 : gv h2 66 56 ≤ 4 := by rw [k2.1 66 56 rfl, hm]; omega
      skip
      have full : ∀ L2, Ext L0 L2 lim (fun l => ∃ a', (0 ≤ a' ∧ a' < a) ∧ Qb h m a' l) → lim ≤ L2.length → Ext L0 L2 lim (fun l => ∃ a', (0 ≤ a' ∧ a' < 40) ∧ Qb h m a' l) := fun L2 X2 f => X2.full f (fun l ⟨x, p, y⟩ => ⟨x, by omega, y⟩)
      have step : ∀ (z0 z1 z2 : Option PV) (L' : List (List Int)) (h' : PH), Shape h' → Keep adA h h' → RowsM h' L' lim → Ext L1 L' lim (Qb h m a) → Wp (d + 2) 0 0 M_X12_reads 173 [some (.inr (.inr 66)), some (.inl v), some (.inl most), some (.inl w), some (.inl a), z0, z1, z2] [] h' q := by
        intro z0 z1 z2 L' h' S' k' R' X'
        refine p_iinc (y := a + 1) (ls' := [some (.inr (.inr 66)), some (.inl v), some (.inl most), some (.inl w), some (.inl (a + 1)), z0, z1, z2]) 176 rfl rfl rfl (w32_id ⟨(by omega), (by omega)⟩) rfl ?_
        refine p_goto 34 rfl rfl ?_
        -- leaf 1: loop 34 [some (.inr (.inr 66)), some (.inl v), some (.inl most), some (.inl w), some (.inl (a + 1)), z0, z1, z2] st=[] h=h' 
        refine ih (a + 1) _ _ _ L' h' (by omega) (by omega) S' k' R' ((X.trans X').imp (fun l => ⟨?_, ?_⟩))
        · rintro (⟨x, p, y⟩ | y)
          · exact ⟨x, by omega, y⟩
          · exact ⟨a, by omega, y⟩
        · rintro ⟨x, p, y⟩
          by_cases z : x = a
          · rw [z] at y; exact Or.inr y
          · exact Or.inl ⟨x, by omega, y⟩
      skip
      skip
      refine p_iload 36 rfl rfl rfl ?_
      refine p_const 38 rfl rfl ?_
      refine p_ic_ge_f 41 rfl rfl (by omega) ?_
      refine p_aload 42 rfl rfl rfl ?_
      refine p_getfi (j := 52) (z := (L1.length : Int)) 45 rfl rfl rfl (tg_66 S2) rfl r1 ?_
      refine p_iload 46 rfl rfl rfl ?_
      refine p_ic_ge 49 179 rfl rfl rfl (fun c1 => ?_) (fun c1 => ?_)
      · skip
        -- leaf 1: loop 179 [some (.inr (.inr 66)), some (.inl v), some (.inl most), some (.inl w), some (.inl a), w0, w1, w2] st=[] h=h2 
        exact KD _ _ _ _ L1 h2 S2 k2 R2 (full L1 X (by omega))
      · skip
        refine p_const 50 rfl rfl ?_
        refine p_istore (ls' := [some (.inr (.inr 66)), some (.inl v), some (.inl most), some (.inl w), some (.inl a), some (.inl 0), w1, w2]) 52 rfl rfl (Nat.le_of_ble_eq_true rfl) rfl ?_
        -- leaf 2: loop 52 [some (.inr (.inr 66)), some (.inl v), some (.inl most), some (.inl w), some (.inl a), some (.inl 0), w1, w2] st=[] h=h2 
        exact rd_b hm m1 m4 hl ⟨by omega, by omega⟩ S2 k2 R2 _ _ (step)
  refine J 40 0 w0 w1 w2 L0 h1 rfl (Int.le_refl 0) S1 k1 R1 ((Ext.refl R1.2.1 R1.2.2.1).imp (fun l => ⟨False.elim, fun ⟨x, p, y⟩ => by omega⟩))
end LOOPS
def Mt (T : Int → Int → Prop) (v : Int) : List (Int × Int) → List Int → Prop
  | [], l => l = []
  | e :: r, l => ∃ id l', l = id :: l' ∧ T (sub v (rl v) e.1 e.2) id ∧ Mt T v r l'
theorem Mt_none {T : Int → Int → Prop} {v : Int} {e : Int × Int} (ne : ∀ id, ¬ T (sub v (rl v) e.1 e.2) id) : ∀ {P : List (Int × Int)} {l : List Int}, e ∈ P → ¬ Mt T v P l
  | [], _, hm, _ => absurd hm List.not_mem_nil
  | a :: r, l, hm, ⟨id, l', _, t, m⟩ => by
    rcases List.mem_cons.mp hm with z | z
    · rw [← z] at t; exact ne id t
    · exact Mt_none ne z m
theorem at_lt {h : PH} {T : Int → Int → Prop} {v : Int} {P : List (Int × Int)} (pm : PM h T v P) {i : Nat} {e : Int × Int} (hi : P[i]? = some e) {p x : Int} (hp : p = i) (x0 : 0 ≤ x) (x1 : x < 40) : AtM h p x ↔ T (sub v (rl v) e.1 e.2) x := by
  have il := (List.getElem?_eq_some_iff.mp hi).1
  have b := (pm.2 i e hi).2 x x0 x1
  have l := pm.1
  unfold AtM
  rw [hp, ← b]
  constructor
  · rintro (z | z)
    · omega
    · exact z.2
  · intro z; exact Or.inr ⟨by omega, z⟩
theorem at_ge {h : PH} {T : Int → Int → Prop} {v : Int} {P : List (Int × Int)} (pm : PM h T v P) {p x : Int} (n : Nat) (hn : P.length = n) (hp : (n : Int) ≤ p) : AtM h p x ↔ x = 0 := by
  have l := pm.1
  unfold AtM
  omega
theorem Qa_Mt {h : PH} {T : Int → Int → Prop} {v : Int} {P : List (Int × Int)} (hT : ∀ c id, T c id → 0 ≤ id ∧ id < 40) (pm : PM h T v P) (m1 : 1 ≤ P.length) (m4 : P.length ≤ 4) (l : List Int) : Qa h P.length l ↔ Mt T v P l := by
  unfold Qa Qb Qc Qd
  match P, pm, m1, m4 with
  | [e1], pm, _, _ =>
    constructor
    · rintro ⟨a, ha, b, hb, A0, c, hc, A1, e, he, A2, A3, rfl⟩
      exact ⟨a, [], rfl, (at_lt pm (i := 0) rfl rfl ha.1 ha.2).1 A0, rfl⟩
    · rintro ⟨a, l', rfl, ta, rfl⟩
      have ra := hT _ _ ta
      exact ⟨a, ra, 0, by decide, (at_lt pm (i := 0) rfl rfl ra.1 ra.2).2 ta, 0, by decide, (at_ge pm 1 rfl (by decide)).2 rfl, 0, by decide, (at_ge pm 1 rfl (by decide)).2 rfl, (at_ge pm 1 rfl (by decide)).2 rfl, rfl⟩
  | [e1, e2], pm, _, _ =>
    constructor
    · rintro ⟨a, ha, b, hb, A0, c, hc, A1, e, he, A2, A3, rfl⟩
      exact ⟨a, [b], rfl, (at_lt pm (i := 0) rfl rfl ha.1 ha.2).1 A0, b, [], rfl, (at_lt pm (i := 1) rfl rfl hb.1 hb.2).1 A1, rfl⟩
    · rintro ⟨a, l', rfl, ta, b, l', rfl, tb, rfl⟩
      have ra := hT _ _ ta
      have rb := hT _ _ tb
      exact ⟨a, ra, b, rb, (at_lt pm (i := 0) rfl rfl ra.1 ra.2).2 ta, 0, by decide, (at_lt pm (i := 1) rfl rfl rb.1 rb.2).2 tb, 0, by decide, (at_ge pm 2 rfl (by decide)).2 rfl, (at_ge pm 2 rfl (by decide)).2 rfl, rfl⟩
  | [e1, e2, e3], pm, _, _ =>
    constructor
    · rintro ⟨a, ha, b, hb, A0, c, hc, A1, e, he, A2, A3, rfl⟩
      exact ⟨a, [b, c], rfl, (at_lt pm (i := 0) rfl rfl ha.1 ha.2).1 A0, b, [c], rfl, (at_lt pm (i := 1) rfl rfl hb.1 hb.2).1 A1, c, [], rfl, (at_lt pm (i := 2) rfl rfl hc.1 hc.2).1 A2, rfl⟩
    · rintro ⟨a, l', rfl, ta, b, l', rfl, tb, c, l', rfl, tc, rfl⟩
      have ra := hT _ _ ta
      have rb := hT _ _ tb
      have rc := hT _ _ tc
      exact ⟨a, ra, b, rb, (at_lt pm (i := 0) rfl rfl ra.1 ra.2).2 ta, c, rc, (at_lt pm (i := 1) rfl rfl rb.1 rb.2).2 tb, 0, by decide, (at_lt pm (i := 2) rfl rfl rc.1 rc.2).2 tc, (at_ge pm 3 rfl (by decide)).2 rfl, rfl⟩
  | [e1, e2, e3, e4], pm, _, _ =>
    constructor
    · rintro ⟨a, ha, b, hb, A0, c, hc, A1, e, he, A2, A3, rfl⟩
      exact ⟨a, [b, c, e], rfl, (at_lt pm (i := 0) rfl rfl ha.1 ha.2).1 A0, b, [c, e], rfl, (at_lt pm (i := 1) rfl rfl hb.1 hb.2).1 A1, c, [e], rfl, (at_lt pm (i := 2) rfl rfl hc.1 hc.2).1 A2, e, [], rfl, (at_lt pm (i := 3) rfl rfl he.1 he.2).1 A3, rfl⟩
    · rintro ⟨a, l', rfl, ta, b, l', rfl, tb, c, l', rfl, tc, e, l', rfl, te, rfl⟩
      have ra := hT _ _ ta
      have rb := hT _ _ tb
      have rc := hT _ _ tc
      have re := hT _ _ te
      exact ⟨a, ra, b, rb, (at_lt pm (i := 0) rfl rfl ra.1 ra.2).2 ta, c, rc, (at_lt pm (i := 1) rfl rfl rb.1 rb.2).2 tb, e, re, (at_lt pm (i := 2) rfl rfl rc.1 rc.2).2 tc, (at_lt pm (i := 3) rfl rfl re.1 re.2).2 te, rfl⟩
  | _ :: _ :: _ :: _ :: _ :: _, _, _, z => exact absurd z (by simp)
theorem mt_sp {T : Int → Int → Prop} {v w : Int} : ∀ (c : Nat) (k fr : Int) (l : List Int), k + c = rl v → 0 ≤ fr → fr ≤ k → (k = rl v → fr = rl v) → Mt T v (cutl w (rl v) c k fr) l → Sp T v (rl v) fr l
  | 0, k, fr, l, hk, f0, fk, hn, m => by
    have m : l = [] := m
    subst m
    show rl v ≤ fr
    omega
  | c + 1, k, fr, l, hk, f0, fk, hn, m => by
    by_cases z : k = rl v - 1 ∨ bit w k = 1
    · have e : cutl w (rl v) (c + 1) k fr = (fr, k + 1 - fr) :: cutl w (rl v) c (k + 1) (k + 1) := if_pos z
      rw [e] at m
      obtain ⟨id, l', rfl, t, m⟩ := m
      refine ⟨k + 1 - fr, by omega, by omega, t, ?_⟩
      rw [show fr + (k + 1 - fr) = k + 1 by omega]
      exact mt_sp c (k + 1) (k + 1) l' (by omega) (by omega) (by omega) (fun y => y) m
    · have e : cutl w (rl v) (c + 1) k fr = cutl w (rl v) c (k + 1) fr := if_neg z
      rw [e] at m
      exact mt_sp c (k + 1) fr l (by omega) f0 (by omega) (fun y => by omega) m
theorem cutl_skip {w n m : Int} (hm : m ≤ n) (h1 : m = n ∨ bit w (m - 1) = 1) : ∀ (c : Nat) (k fr : Int), k + c = n → k < m → (∀ j, k ≤ j → j < m - 1 → bit w j = 0) → cutl w n c k fr = (fr, m - fr) :: cutl w n (n - m).toNat m m
  | 0, k, fr, hk, km, _ => by omega
  | c + 1, k, fr, hk, km, hb => by
    by_cases z : k = m - 1
    · have e : cutl w n (c + 1) k fr = (fr, k + 1 - fr) :: cutl w n c (k + 1) (k + 1) := if_pos (by rw [z]; omega)
      rw [e, z, show m - 1 + 1 = m by omega, show c = (n - m).toNat by omega]
    · have b := hb k (Int.le_refl k) (by omega)
      have e : cutl w n (c + 1) k fr = cutl w n c (k + 1) fr := if_neg (by omega)
      rw [e]
      exact cutl_skip hm h1 c (k + 1) fr (by omega) (by omega) (fun j j0 j1 => hb j (by omega) j1)
theorem sp_mt {T : Int → Int → Prop} {v : Int} : ∀ (l : List Int) (fr : Int), Sp T v (rl v) fr l → 0 ≤ fr → fr ≤ rl v → ∃ e : Int → Int, (∀ j, e j = 0 ∨ e j = 1) ∧ ∀ w, (∀ j, fr ≤ j → j < rl v - 1 → bit w j = e j) → Mt T v (cutl w (rl v) (rl v - fr).toNat fr fr) l
  | [], fr, s, f0, f1 => by
    have s : rl v ≤ fr := s
    refine ⟨fun _ => 0, fun _ => Or.inl rfl, fun w _ => ?_⟩
    rw [show (rl v - fr).toNat = 0 by omega]
    rfl
  | id :: r, fr, ⟨len, l1, fl, t, s⟩, f0, f1 => by
    obtain ⟨e, e01, he⟩ := sp_mt r (fr + len) s (by omega) fl
    refine ⟨fun j => if j < fr + len then (if j = fr + len - 1 then 1 else 0) else e j, fun j => ?_, fun w hw => ?_⟩
    · by_cases z : j < fr + len
      · by_cases y : j = fr + len - 1
        · exact Or.inr (by show (if j < fr + len then (if j = fr + len - 1 then (1 : Int) else 0) else e j) = 1; rw [if_pos z, if_pos y])
        · exact Or.inl (by show (if j < fr + len then (if j = fr + len - 1 then (1 : Int) else 0) else e j) = 0; rw [if_pos z, if_neg y])
      · show (if j < fr + len then (if j = fr + len - 1 then (1 : Int) else 0) else e j) = 0 ∨ (if j < fr + len then (if j = fr + len - 1 then (1 : Int) else 0) else e j) = 1
        rw [if_neg z]; exact e01 j
    · have k1 : fr + len = rl v ∨ bit w (fr + len - 1) = 1 := by
        by_cases z : fr + len = rl v
        · exact Or.inl z
        · refine Or.inr ?_
          have := hw (fr + len - 1) (by omega) (by omega)
          rw [this]
          show (if fr + len - 1 < fr + len then (if fr + len - 1 = fr + len - 1 then (1 : Int) else 0) else e _) = 1
          rw [if_pos (by omega), if_pos rfl]
      have k2 := cutl_skip (w := w) fl k1 (rl v - fr).toNat fr fr (by omega) (by omega) (fun j j0 j1 => by
        have := hw j j0 (by omega)
        rw [this]
        show (if j < fr + len then (if j = fr + len - 1 then (1 : Int) else 0) else e _) = 0
        rw [if_pos (by omega), if_neg (by omega)])
      rw [k2]
      refine ⟨id, r, rfl, ?_, ?_⟩
      · show T (sub v (rl v) fr (fr + len - fr)) id
        rw [show fr + len - fr = len by omega]; exact t
      · exact he w (fun j j0 j1 => by
          have := hw j (by omega) j1
          rw [this]
          show (if j < fr + len then (if j = fr + len - 1 then (1 : Int) else 0) else e _) = _
          rw [if_neg (by omega)])
def wy (v : Int) : Int := if v < 32 then 1 else if v < 1024 then 2 else if v < 32768 then 4 else 8
theorem wbits {v : Int} (v0 : 0 < v) (v1 : v < 1048576) (e : Int → Int) (e01 : ∀ j, e j = 0 ∨ e j = 1) : ∃ w, 0 ≤ w ∧ w < wy v ∧ ∀ j, 0 ≤ j → j < rl v - 1 → bit w j = e j := by
  have g0 := e01 0
  have g1 := e01 1
  have g2 := e01 2
  have hr : (rl v = 1 ∧ wy v = 1) ∨ (rl v = 2 ∧ wy v = 2) ∨ (rl v = 3 ∧ wy v = 4) ∨ (rl v = 4 ∧ wy v = 8) := by
    unfold wy rl
    (repeat' split) <;> omega
  rcases hr with ⟨r, y⟩ | ⟨r, y⟩ | ⟨r, y⟩ | ⟨r, y⟩ <;> rw [r, y]
  · exact ⟨0, by omega, by omega, fun j j0 j1 => by omega⟩
  · refine ⟨e 0, by omega, by omega, fun j j0 j1 => ?_⟩
    rw [show j = 0 by omega]
    show e 0 / 1 % 2 = e 0
    omega
  · refine ⟨e 0 + 2 * e 1, by omega, by omega, fun j j0 j1 => ?_⟩
    rcases (show j = 0 ∨ j = 1 by omega) with z | z <;> rw [z]
    · show (e 0 + 2 * e 1) / 1 % 2 = e 0; omega
    · show (e 0 + 2 * e 1) / 2 % 2 = e 1; omega
  · refine ⟨e 0 + 2 * e 1 + 4 * e 2, by omega, by omega, fun j j0 j1 => ?_⟩
    rcases (show j = 0 ∨ j = 1 ∨ j = 2 by omega) with z | z | z <;> rw [z]
    · show (e 0 + 2 * e 1 + 4 * e 2) / 1 % 2 = e 0; omega
    · show (e 0 + 2 * e 1 + 4 * e 2) / 2 % 2 = e 1; omega
    · show (e 0 + 2 * e 1 + 4 * e 2) / 4 % 2 = e 2; omega
theorem Rd_iff {T : Int → Int → Prop} {v : Int} (g : letters v) (l : List Int) : Rd T v l ↔ ∃ w, (0 ≤ w ∧ w < wy v) ∧ Mt T v (CL w v) l := by
  have vb := rl_pos g.1
  have rb := rl_in v
  constructor
  · intro r
    obtain ⟨e, e01, he⟩ := sp_mt l 0 r (Int.le_refl 0) rb.1
    obtain ⟨w, w0, w1, hw⟩ := wbits vb.1 vb.2 e e01
    have := he w (fun j j0 j1 => hw j j0 j1)
    rw [show rl v - 0 = rl v by omega] at this
    exact ⟨w, ⟨w0, w1⟩, this⟩
  · rintro ⟨w, _, m⟩
    exact mt_sp (rl v).toNat 0 0 l (by omega) (Int.le_refl 0) (Int.le_refl 0) (fun y => y) m
theorem cutl_pos (w n : Int) : ∀ (c : Nat) (k fr : Int), k + (c + 1) = n → 1 ≤ (cutl w n (c + 1) k fr).length
  | 0, k, fr, hk => by
    have e : cutl w n 1 k fr = (fr, k + 1 - fr) :: cutl w n 0 (k + 1) (k + 1) := if_pos (Or.inl (by omega))
    rw [e]; exact Nat.le_refl 1
  | c + 1, k, fr, hk => by
    by_cases z : k = n - 1 ∨ bit w k = 1
    · have e : cutl w n (c + 1 + 1) k fr = (fr, k + 1 - fr) :: cutl w n (c + 1) (k + 1) (k + 1) := if_pos z
      rw [e]; exact Nat.succ_le_succ (Nat.zero_le _)
    · have e : cutl w n (c + 1 + 1) k fr = cutl w n (c + 1) (k + 1) fr := if_neg z
      rw [e]; exact cutl_pos w n c (k + 1) fr (by omega)
theorem CL_pos {v : Int} (g : letters v) (w : Int) : 1 ≤ (CL w v).length := by
  have rp := g.1
  have := cutl_pos w (rl v) ((rl v).toNat - 1) 0 0 (by omega)
  rw [show (rl v).toNat - 1 + 1 = (rl v).toNat by omega] at this
  exact this
theorem RowsM.kp {h1 h2 : PH} {L : List (List Int)} {lim : Nat} (R : RowsM h1 L lim) (e : ∀ a i, (a = 66 ∧ i = 52) ∨ a = 102 ∨ a = 103 → gv h2 a i = gv h1 a i) : RowsM h2 L lim := by
  obtain ⟨a, b, c, d, f, g⟩ := R
  refine ⟨(e 66 52 (by omega)).trans a, b, c, d, f, fun i l hl => ?_⟩
  rw [e 102 _ (by omega), e 103 _ (by omega), e 103 _ (by omega), e 103 _ (by omega), e 103 _ (by omega)]
  exact g i l hl
theorem RowsM.nil {h : PH} {lim : Nat} (e : gv h 66 52 = 0) (l1 : lim ≤ 100) : RowsM h [] lim := ⟨e, List.nodup_nil, Nat.zero_le _, l1, fun l hl => absurd hl List.not_mem_nil, fun i l hl => by cases hl⟩
theorem m_waysOf {d : Nat} {h : PH} {q : PQ} (_S : Shape h) (v : Int) (K : q (some (.inl (wy v))) h) : Wp (d + 1) 0 0 M_X12_waysOf 0 [some (.inl v)] [] h q := by
  unfold wy at K
  refine p_iload 1 rfl rfl rfl ?_
  refine p_const 3 rfl rfl ?_
  refine p_ic_ge 6 10 rfl rfl rfl (fun c1 => ?_) (fun c1 => ?_)
  · skip
    refine p_iload 11 rfl rfl rfl ?_
    refine p_const 14 rfl rfl ?_
    refine p_ic_ge 17 21 rfl rfl rfl (fun c2 => ?_) (fun c2 => ?_)
    · skip
      refine p_iload 22 rfl rfl rfl ?_
      refine p_const 25 rfl rfl ?_
      refine p_ic_ge 28 32 rfl rfl rfl (fun c3 => ?_) (fun c3 => ?_)
      · skip
        refine p_const 34 rfl rfl ?_
        refine p_iret rfl rfl ?_
        -- leaf 1: answer [.inl 8] h=h 
        (repeat' split at K) <;> first | (exfalso; omega) | exact K
      · skip
        refine p_const 29 rfl rfl ?_
        refine p_goto 34 rfl rfl ?_
        refine p_iret rfl rfl ?_
        -- leaf 2: answer [.inl 4] h=h 
        (repeat' split at K) <;> first | (exfalso; omega) | exact K
    · skip
      refine p_const 18 rfl rfl ?_
      refine p_goto 34 rfl rfl ?_
      refine p_iret rfl rfl ?_
      -- leaf 3: answer [.inl 2] h=h 
      (repeat' split at K) <;> first | (exfalso; omega) | exact K
  · skip
    refine p_const 7 rfl rfl ?_
    refine p_goto 34 rfl rfl ?_
    refine p_iret rfl rfl ?_
    -- leaf 4: answer [.inl 1] h=h 
    (repeat' split at K) <;> first | (exfalso; omega) | exact K
theorem rdA_open : ∀ a i, bkB a i = false ∨ (a = 66 ∧ i = 49) ∨ a = 100 ∨ a = 101 → rdA a i = false := fun a i z => decide_eq_false (fun y => by
  rcases z with z | z
  · exact of_decide_eq_false z (by omega)
  · omega)
theorem m_reads {d : Nat} {h : PH} {q : PQ} (S : Shape h) (v most : Int) {k s t z : Int} {lim : Nat} {L : List (List Int)} (hl : most = lim) (g : letters v) (O : Open h k s t z) (k0 : 0 ≤ k) (k1 : k ≤ 200) (n0 : 0 ≤ gv h 79 k) (n40 : gv h 79 k ≤ 40) (tv01 : tvs h k s t z) (R : RowsM h L lim)
    (K : ∀ h', (Keep rdA h h' ∧ ∃ L', RowsM h' L' lim ∧ Ext L L' lim (Rd (Ws h k s t z) v)) → Shape h' → q none h') :
    Wp (d + 3) 0 0 M_X12_reads 0 [some (.inr (.inr 66)), some (.inl v), some (.inl most), none, none, none, none, none] [] h q := by
  have wyb : 1 ≤ wy v ∧ wy v ≤ 8 := by unfold wy; (repeat' split) <;> omega
  have hT : ∀ c id, Ws h k s t z c id → 0 ≤ id ∧ id < 40 := fun c id y => y.in n40
  have J : ∀ (n : Nat) (w : Int) (w4 w5 w6 w7 : Option PV) (L1 : List (List Int)) (h1 : PH), w + n = wy v → 0 ≤ w → Shape h1 → Keep rdA h h1 → RowsM h1 L1 lim → Ext L L1 lim (fun l => ∃ w', (0 ≤ w' ∧ w' < w) ∧ Mt (Ws h k s t z) v (CL w' v) l) →
      Wp (d + 3) 0 0 M_X12_reads 2 [some (.inr (.inr 66)), some (.inl v), some (.inl most), some (.inl w), w4, w5, w6, w7] [] h1 q := by
    intro n
    induction n with
    | zero =>
      intro w w4 w5 w6 w7 L1 h1 hn w0 S1 kp R1 X
      have fin : Ext L L1 lim (Rd (Ws h k s t z) v) := X.imp (fun l => by rw [Rd_iff g, show w = wy v by omega])
      refine p_iload 3 rfl rfl rfl ?_
      refine p_iload 4 rfl rfl rfl ?_
      refine p_calls (le := [some (.inl v)]) (as := [.inl v]) (rest := [.inl w]) 7 0 0 0 0 rfl rfl (Nat.le_of_ble_eq_true rfl) rfl (Nat.le_of_ble_eq_true rfl) rfl rfl (Nat.le_of_ble_eq_true rfl) rfl (Nat.le_of_ble_eq_true rfl) rfl (Nat.le_refl _) (Nat.le_refl _) rfl rfl ?_
      refine m_waysOf S1 v ?_
      show Wp (d + 3) 0 0 M_X12_reads 7 [some (.inr (.inr 66)), some (.inl v), some (.inl most), some (.inl w), w4, w5, w6, w7] [.inl (wy v), .inl w] h1 _
      refine p_ic_ge_t 185 rfl rfl (by omega) ?_
      refine p_ret rfl rfl ?_
      -- leaf 1: answer [] h=h1 
      exact K h1 ⟨kp, L1, R1, fin⟩ S1
    | succ n ih =>
      intro w w4 w5 w6 w7 L1 h1 hn w0 S1 kp R1 X
      have r1 := R1.1
      have kB := kp.wide rdA_bkB
      have O1 := O.kp kp rdA_open
      have n1 : gv h1 79 k = gv h 79 k := kB.1 79 k rfl
      have T1 : Wt h1 k s t z 1 = Ws h k s t z := (Wt_congr kB k s t z 1).trans (Wt_1 h k s t z)
      have full : lim ≤ L1.length → Ext L L1 lim (Rd (Ws h k s t z) v) := fun f => X.full f (fun l ⟨x, p, y⟩ => by rw [Rd_iff g]; exact ⟨x, by omega, y⟩)
      have step : ∀ (x4 x5 x6 x7 : Option PV) (L' : List (List Int)) (h' : PH), Shape h' → Keep rdA h h' → RowsM h' L' lim → Ext L1 L' lim (Mt (Ws h k s t z) v (CL w v)) → Wp (d + 3) 0 0 M_X12_reads 179 [some (.inr (.inr 66)), some (.inl v), some (.inl most), some (.inl w), x4, x5, x6, x7] [] h' q := by
        intro x4 x5 x6 x7 L' h' S' k' R' X'
        refine p_iinc (y := w + 1) (ls' := [some (.inr (.inr 66)), some (.inl v), some (.inl most), some (.inl (w + 1)), x4, x5, x6, x7]) 182 rfl rfl rfl (w32_id ⟨(by omega), (by omega)⟩) rfl ?_
        refine p_goto 2 rfl rfl ?_
        -- leaf 1: loop 2 [some (.inr (.inr 66)), some (.inl v), some (.inl most), some (.inl (w + 1)), x4, x5, x6, x7] st=[] h=h' 
        refine ih (w + 1) _ _ _ _ L' h' (by omega) (by omega) S' k' R' ((X.trans X').imp (fun l => ⟨?_, ?_⟩))
        · rintro (⟨x, p, y⟩ | y)
          · exact ⟨x, by omega, y⟩
          · exact ⟨w, by omega, y⟩
        · rintro ⟨x, p, y⟩
          by_cases z : x = w
          · rw [z] at y; exact Or.inr y
          · exact Or.inl ⟨x, by omega, y⟩
      refine p_iload 3 rfl rfl rfl ?_
      refine p_iload 4 rfl rfl rfl ?_
      refine p_calls (le := [some (.inl v)]) (as := [.inl v]) (rest := [.inl w]) 7 0 0 0 0 rfl rfl (Nat.le_of_ble_eq_true rfl) rfl (Nat.le_of_ble_eq_true rfl) rfl rfl (Nat.le_of_ble_eq_true rfl) rfl (Nat.le_of_ble_eq_true rfl) rfl (Nat.le_refl _) (Nat.le_refl _) rfl rfl ?_
      refine m_waysOf S1 v ?_
      show Wp (d + 3) 0 0 M_X12_reads 7 [some (.inr (.inr 66)), some (.inl v), some (.inl most), some (.inl w), w4, w5, w6, w7] [.inl (wy v), .inl w] h1 _
      refine p_ic_ge_f 10 rfl rfl (by omega) ?_
      refine p_aload 11 rfl rfl rfl ?_
      refine p_getfi (j := 52) (z := (L1.length : Int)) 14 rfl rfl rfl (tg_66 S1) rfl r1 ?_
      refine p_iload 15 rfl rfl rfl ?_
      refine p_ic_ge 18 185 rfl rfl rfl (fun c2 => ?_) (fun c2 => ?_)
      · skip
        refine p_ret rfl rfl ?_
        -- leaf 1: answer [] h=h1 
        exact K h1 ⟨kp, L1, R1, full (by omega)⟩ S1
      · skip
        refine p_aload 19 rfl rfl rfl ?_
        refine p_iload 20 rfl rfl rfl ?_
        refine p_iload 21 rfl rfl rfl ?_
        refine p_const 22 rfl rfl ?_
        refine p_callv (le := [some (.inr (.inr 66)), some (.inl v), some (.inl w), some (.inl 1), none, none, none, none, none, none, none]) (as := [.inr (.inr 66), .inl v, .inl w, .inl 1]) (rest := []) 25 0 0 0 0 rfl rfl (Nat.le_of_ble_eq_true rfl) rfl (Nat.le_of_ble_eq_true rfl) rfl rfl (Nat.le_of_ble_eq_true rfl) rfl (Nat.le_of_ble_eq_true rfl) rfl (Nat.le_refl _) (Nat.le_refl _) rfl rfl (tg_66 S1) ?_
        refine m_cuts S1 v w 1 g O1 k0 k1 (by omega) (by omega) (tv01.kp kB) (fun r3 y3 p3 S3 => ?_)
        show Wp (d + 3) 0 0 M_X12_reads 25 [some (.inr (.inr 66)), some (.inl v), some (.inl most), some (.inl w), w4, w5, w6, w7] [.inl r3] y3 _
        refine p_if_ne 28 31 rfl rfl rfl (fun c4 => ?_) (fun c4 => ?_)
        · skip
          refine p_const 32 rfl rfl ?_
          refine p_istore (ls' := [some (.inr (.inr 66)), some (.inl v), some (.inl most), some (.inl w), some (.inl 0), w5, w6, w7]) 34 rfl rfl (Nat.le_of_ble_eq_true rfl) rfl ?_
          -- leaf 2: loop 34 [some (.inr (.inr 66)), some (.inl v), some (.inl most), some (.inl w), some (.inl 0), w5, w6, w7] st=[] h=y3 
          obtain ⟨k3, cr⟩ := p3
          rw [T1] at cr
          rcases cr with ⟨_, pm, _⟩ | ⟨e, _⟩
          · exact rd_a pm.1 (CL_pos g w) (CL_len w v) hl S3 (Keep.rf _ _) (R1.kp (fun a i z => k3.1 a i (decide_eq_false (by omega)))) _ _ _ (fun x0 x1 x2 x3 L' h' S' k' R' X' => step _ _ _ _ L' h' S' ((kp.trans (k3.wide ctA_rdA)).trans (k'.wide adA_rdA)) R' (X'.imp (fun l => Qa_Mt hT pm (CL_pos g w) (CL_len w v) l)))
          · omega
        · skip
          refine p_goto 179 rfl rfl ?_
          -- leaf 3: loop 179 [some (.inr (.inr 66)), some (.inl v), some (.inl most), some (.inl w), w4, w5, w6, w7] st=[] h=y3 
          obtain ⟨k3, cr⟩ := p3
          rw [T1] at cr
          rcases cr with ⟨e, _⟩ | ⟨_, e, he, ne⟩
          · omega
          · exact step _ _ _ _ L1 _ S3 (kp.trans (k3.wide ctA_rdA)) (R1.kp (fun a i z => k3.1 a i (decide_eq_false (by omega)))) ((Ext.refl R1.2.1 R1.2.2.1).imp (fun l => ⟨False.elim, fun m => absurd m (Mt_none ne he)⟩))
  refine p_const 1 rfl rfl ?_
  refine p_istore (ls' := [some (.inr (.inr 66)), some (.inl v), some (.inl most), some (.inl 0), none, none, none, none]) 2 rfl rfl (Nat.le_of_ble_eq_true rfl) rfl ?_
  -- leaf 1: loop 2 [some (.inr (.inr 66)), some (.inl v), some (.inl most), some (.inl 0), none, none, none, none] st=[] h=h 
  exact J (wy v).toNat 0 _ _ _ _ L h (by omega) (by omega) S (Keep.rf _ _) R ((Ext.refl R.2.1 R.2.2.1).imp (fun l => ⟨False.elim, fun ⟨x, p, y⟩ => by omega⟩))
theorem m_isPlain {d : Nat} {h : PH} {q : PQ} (S : Shape h) (v : Int) {k s t z : Int} (g : letters v) (O : Open h k s t z) (k0 : 0 ≤ k) (k1 : k ≤ 200) (n0 : 0 ≤ gv h 79 k) (n40 : gv h 79 k ≤ 40) (tv01 : tvs h k s t z)
    (K : ∀ r h', (Keep rdA h h' ∧ ((r = 1 ∧ ∃ l, only (Rd (Ws h k s t z) v) l ∧ RowsM h' [l] 2) ∨ (r = 0 ∧ ¬ ∃ l, only (Rd (Ws h k s t z) v) l))) → Shape h' → q (some (.inl r)) h') :
    Wp (d + 4) 0 0 M_X12_isPlain 0 [some (.inr (.inr 66)), some (.inl v)] [] h q := by
  refine p_aload 1 rfl rfl rfl ?_
  refine p_const 2 rfl rfl ?_
  refine p_putfi (j := 52) 5 rfl rfl rfl (fun z => absurd z (by decide)) (tg_66 S) rfl ?_
  refine p_nmh (fun y1 e1 => ?_)
  have S1 : Shape y1 := by rw [e1]; exact S.svF ff_66_52 _
  have kp1 : Keep rdA h y1 := by rw [e1]; exact (Keep.rf rdA _).sv rfl _
  refine p_aload 6 rfl rfl rfl ?_
  refine p_iload 7 rfl rfl rfl ?_
  have kB := kp1.wide rdA_bkB
  refine p_const 8 rfl rfl ?_
  refine p_callv (le := [some (.inr (.inr 66)), some (.inl v), some (.inl 2), none, none, none, none, none]) (as := [.inr (.inr 66), .inl v, .inl 2]) (rest := []) 11 0 0 0 0 rfl rfl (Nat.le_of_ble_eq_true rfl) rfl (Nat.le_of_ble_eq_true rfl) rfl rfl (Nat.le_of_ble_eq_true rfl) rfl (Nat.le_of_ble_eq_true rfl) rfl (Nat.le_refl _) (Nat.le_refl _) rfl rfl (tg_66 S1) ?_
  refine m_reads S1 v 2 (lim := 2) rfl g (O.kp kp1 rdA_open) k0 k1 (by have := kB.1 79 k rfl; omega) (by have := kB.1 79 k rfl; omega) (tv01.kp kB) (RowsM.nil (by rw [e1, sv_eq]) (by decide)) (fun y2 p2 S2 => ?_)
  have kp2 : Keep rdA h y2 := kp1.trans p2.1
  show Wp (d + 4) 0 0 M_X12_isPlain 11 [some (.inr (.inr 66)), some (.inl v)] [] y2 _
  refine p_aload 12 rfl rfl rfl ?_
  refine p_getfi (j := 52) (z := gv y2 66 52) 15 rfl rfl rfl (tg_66 S2) rfl rfl ?_
  obtain ⟨k2, L', q2, q3⟩ := p2
  rw [Ws_congr kB] at q3
  have q1 := q2.1
  refine p_const 16 rfl rfl ?_
  refine p_ic_ne 19 23 rfl rfl rfl (fun c3 => ?_) (fun c3 => ?_)
  · skip
    refine p_const 24 rfl rfl ?_
    refine p_zret rfl rfl (by decide) ?_
    -- leaf 1: answer [.inl 0] h=y2  kp2
    exact K _ _ ⟨kp2, Or.inr ⟨rfl, q3.not_only (by omega)⟩⟩ S2
  · skip
    refine p_const 20 rfl rfl ?_
    refine p_goto 24 rfl rfl ?_
    refine p_zret rfl rfl (by decide) ?_
    -- leaf 2: answer [.inl 1] h=y2  kp2
    obtain ⟨l, e⟩ := len_one (L := L') (by omega)
    subst e
    exact K _ _ ⟨kp2, Or.inl ⟨rfl, l, q3.one_only, q2⟩⟩ S2
theorem BkR.tvs {h : PH} {a k s t z : Int} (R : BkR h a k) (hs : 0 ≤ s ∧ s < 10) (ht : 0 ≤ t ∧ t < 1000) (hz : 0 ≤ z ∧ z ≤ 9) : tvs h k s t z := fun _ j0 j1 => R.tv_in hs ht hz j0 j1
theorem SplR.yesL {h h' : PH} {v r : Int} (p : SplR v 26 h r h') (e : r ≠ 0) : letters v := by
  rcases p.2 with ⟨_, a, _, b⟩ | ⟨a, _⟩
  · exact ⟨a, fun k k0 k1 => (b k k0 k1).2⟩
  · exact absurd a e
theorem SplR.noL {h h' : PH} {v r : Int} (p : SplR v 26 h r h') (e : r = 0) : ¬ letters v := by
  rcases p.2 with ⟨a, _⟩ | ⟨_, a | ⟨k, k0, k1, n⟩⟩
  · omega
  · intro g; have := g.1; omega
  · intro g; exact n (g.2 k k0 k1)
theorem m_read {d : Nat} {h : PH} {q : PQ} (S : Shape h) (A : AI h) (F : FI h) (v s t : Int) (K : ∀ r h', (Keep mA h h' ∧ ReadR h v s t r) → Shape h' → q (some (.inl r)) h') :
    Wp (d + 8) 0 0 M_X12_read 0 [some (.inr (.inr 66)), some (.inl v), some (.inl s), some (.inl t), none] [] h q := by
  have A0 := A
  have kb0 := A.kb
  have nwi := nw_in A
  have zhi := fun t0 t1 => zh_in F (t := t) t0 t1
  refine p_aload 1 rfl rfl rfl ?_
  refine p_aload 2 rfl rfl rfl ?_
  refine p_callv (le := [some (.inr (.inr 66))]) (as := [.inr (.inr 66)]) (rest := [.inr (.inr 66)]) 5 0 0 0 0 rfl rfl (Nat.le_of_ble_eq_true rfl) rfl (Nat.le_of_ble_eq_true rfl) rfl rfl (Nat.le_of_ble_eq_true rfl) rfl (Nat.le_of_ble_eq_true rfl) rfl (Nat.le_refl _) (Nat.le_refl _) rfl rfl (tg_66 S) ?_
  refine m_now S  (A0) ?_
  show Wp (d + 8) 0 0 M_X12_read 5 [some (.inr (.inr 66)), some (.inl v), some (.inl s), some (.inl t), none] [.inl (nw h), .inr (.inr 66)] h _
  refine p_callv (le := [some (.inr (.inr 66)), some (.inl (nw h)), none, none]) (as := [.inr (.inr 66), .inl (nw h)]) (rest := []) 8 0 0 0 0 rfl rfl (Nat.le_of_ble_eq_true rfl) rfl (Nat.le_of_ble_eq_true rfl) rfl rfl (Nat.le_of_ble_eq_true rfl) rfl (Nat.le_of_ble_eq_true rfl) rfl (Nat.le_refl _) (Nat.le_refl _) rfl rfl (tg_66 S) ?_
  refine m_bookAt S (nw h) A (by omega) (by omega) ?_
  show Wp (d + 8) 0 0 M_X12_read 8 [some (.inr (.inr 66)), some (.inl v), some (.inl s), some (.inl t), none] [.inl (kb h)] h _
  refine p_istore (ls' := [some (.inr (.inr 66)), some (.inl v), some (.inl s), some (.inl t), some (.inl (kb h))]) 10 rfl rfl (Nat.le_of_ble_eq_true rfl) rfl ?_
  refine p_iload 12 rfl rfl rfl ?_
  refine p_if_eq 15 39 rfl rfl rfl (fun c2 => ?_) (fun c2 => ?_)
  · skip
    refine p_const 40 rfl rfl ?_
    refine p_iret rfl rfl ?_
    -- leaf 1: answer [.inl (-1)] h=h 
    exact K _ _ ⟨Keep.rf _ _, Or.inl ⟨fun z => z.1 c2, rfl⟩⟩ S
  · skip
    obtain ⟨kb1, kb2, _, R⟩ : 1 ≤ kb h ∧ kb h ≤ 200 ∧ 128 ≤ xb h ∧ BkR h (xb h) (kb h) := by rcases kb0 with w | w; exact absurd w.1 c2; exact w
    refine p_iload 16 rfl rfl rfl ?_
    refine p_calls (le := [some (.inl s)]) (as := [.inl s]) (rest := []) 19 0 0 0 0 rfl rfl (Nat.le_of_ble_eq_true rfl) rfl (Nat.le_of_ble_eq_true rfl) rfl rfl (Nat.le_of_ble_eq_true rfl) rfl (Nat.le_of_ble_eq_true rfl) rfl (Nat.le_refl _) (Nat.le_refl _) rfl rfl ?_
    refine m_isShip S s  (fun c3 => ?_) (fun c3 => ?_)
    · show Wp (d + 8) 0 0 M_X12_read 19 [some (.inr (.inr 66)), some (.inl v), some (.inl s), some (.inl t), some (.inl (kb h))] [.inl 1] h _
      refine p_if_eq_f 22 rfl rfl (by decide) ?_
      refine p_iload 23 rfl rfl rfl ?_
      refine p_calls (le := [some (.inl t)]) (as := [.inl t]) (rest := []) 26 0 0 0 0 rfl rfl (Nat.le_of_ble_eq_true rfl) rfl (Nat.le_of_ble_eq_true rfl) rfl rfl (Nat.le_of_ble_eq_true rfl) rfl (Nat.le_of_ble_eq_true rfl) rfl (Nat.le_refl _) (Nat.le_refl _) rfl rfl ?_
      refine m_isMinute S t  (fun c4 => ?_) (fun c4 => ?_)
      · show Wp (d + 8) 0 0 M_X12_read 26 [some (.inr (.inr 66)), some (.inl v), some (.inl s), some (.inl t), some (.inl (kb h))] [.inl 1] h _
        refine p_if_eq_f 29 rfl rfl (by decide) ?_
        refine p_aload 30 rfl rfl rfl ?_
        refine p_iload 31 rfl rfl rfl ?_
        refine p_const 33 rfl rfl ?_
        refine p_callv (le := [some (.inr (.inr 66)), some (.inl v), some (.inl 26), none, none]) (as := [.inr (.inr 66), .inl v, .inl 26]) (rest := []) 36 0 0 0 0 rfl rfl (Nat.le_of_ble_eq_true rfl) rfl (Nat.le_of_ble_eq_true rfl) rfl rfl (Nat.le_of_ble_eq_true rfl) rfl (Nat.le_of_ble_eq_true rfl) rfl (Nat.le_refl _) (Nat.le_refl _) rfl rfl (tg_66 S) ?_
        refine m_splits S v 26 (fun r5 y5 p5 S5 => ?_)
        have kp5 : Keep mA h y5 := (p5.1.wide spA_mA)
        show Wp (d + 8) 0 0 M_X12_read 36 [some (.inr (.inr 66)), some (.inl v), some (.inl s), some (.inl t), some (.inl (kb h))] [.inl r5] y5 _
        refine p_if_ne 39 41 rfl rfl rfl (fun c6 => ?_) (fun c6 => ?_)
        · skip
          refine p_aload 42 rfl rfl rfl ?_
          refine p_iload 44 rfl rfl rfl ?_
          refine p_iload 45 rfl rfl rfl ?_
          refine p_iload 46 rfl rfl rfl ?_
          have kB5 := kp5.wide mA_bkB
          have g := p5.yesL c6
          refine p_callv (le := [some (.inr (.inr 66)), some (.inl (kb h)), some (.inl s), some (.inl t), none, none]) (as := [.inr (.inr 66), .inl (kb h), .inl s, .inl t]) (rest := []) 49 0 0 0 0 rfl rfl (Nat.le_of_ble_eq_true rfl) rfl (Nat.le_of_ble_eq_true rfl) rfl rfl (Nat.le_of_ble_eq_true rfl) rfl (Nat.le_of_ble_eq_true rfl) rfl (Nat.le_refl _) (Nat.le_refl _) rfl rfl (tg_66 S5) ?_
          refine m_opensBook S5 (kb h) s t (R.kp kB5) (F.kp kB5) (by omega) (by omega) c3 c4 (fun y7 p7 S7 => ?_)
          have kp7 : Keep mA h y7 := kp5.trans (p7.1.wide moA_mA)
          show Wp (d + 8) 0 0 M_X12_read 49 [some (.inr (.inr 66)), some (.inl v), some (.inl s), some (.inl t), some (.inl (kb h))] [] y7 _
          refine p_aload 50 rfl rfl rfl ?_
          refine p_const 51 rfl rfl ?_
          refine p_putfi (j := 52) 54 rfl rfl rfl (fun z => absurd z (by decide)) (tg_66 S7) rfl ?_
          refine p_nmh (fun y8 e8 => ?_)
          have S8 : Shape y8 := by rw [e8]; exact S7.svF ff_66_52 _
          have kp8 : Keep mA h y8 := by rw [e8]; exact kp7.sv rfl _
          refine p_aload 55 rfl rfl rfl ?_
          refine p_iload 56 rfl rfl rfl ?_
          refine p_const 58 rfl rfl ?_
          have kB8 := kp8.wide mA_bkB
          have K78 : Keep rdA y7 y8 := by rw [e8]; exact (Keep.rf _ _).sv rfl _
          have O7 := p7.2
          rw [zh_congr kB5] at O7
          have R8 := R.kp kB8
          refine p_callv (le := [some (.inr (.inr 66)), some (.inl v), some (.inl 100), none, none, none, none, none]) (as := [.inr (.inr 66), .inl v, .inl 100]) (rest := []) 61 0 0 0 0 rfl rfl (Nat.le_of_ble_eq_true rfl) rfl (Nat.le_of_ble_eq_true rfl) rfl rfl (Nat.le_of_ble_eq_true rfl) rfl (Nat.le_of_ble_eq_true rfl) rfl (Nat.le_refl _) (Nat.le_refl _) rfl rfl (tg_66 S8) ?_
          refine m_reads S8 v 100 (lim := 100) rfl g (O7.kp K78 rdA_open) (by omega) (by omega) R8.1 R8.2.1 (R8.tvs c3 c4 (zhi c4.1 c4.2)) (RowsM.nil (by rw [e8, sv_eq]) (by decide)) (fun y9 p9 S9 => ?_)
          have kp9 : Keep mA h y9 := kp8.trans (p9.1.wide rdA_mA)
          show Wp (d + 8) 0 0 M_X12_read 61 [some (.inr (.inr 66)), some (.inl v), some (.inl s), some (.inl t), some (.inl (kb h))] [] y9 _
          refine p_aload 62 rfl rfl rfl ?_
          refine p_getfi (j := 52) (z := gv y9 66 52) 65 rfl rfl rfl (tg_66 S9) rfl rfl ?_
          refine p_iret rfl rfl ?_
          -- leaf 2: answer [.inl (gv y9 66 52)] h=y9  kp9
          obtain ⟨k9, L', q2, q3⟩ := p9
          rw [Ws_congr kB8] at q3
          refine K _ _ ⟨kp9, Or.inr ⟨⟨c2, g, c3, c4⟩, L', q3, q2.1⟩⟩ S9
        · skip
          refine p_const 40 rfl rfl ?_
          refine p_iret rfl rfl ?_
          -- leaf 3: answer [.inl (-1)] h=y5  kp5
          exact K _ _ ⟨kp5, Or.inl ⟨fun z => p5.noL (by omega) z.2.1, rfl⟩⟩ S5
      · show Wp (d + 8) 0 0 M_X12_read 26 [some (.inr (.inr 66)), some (.inl v), some (.inl s), some (.inl t), some (.inl (kb h))] [.inl 0] h _
        refine p_if_eq_t 39 rfl rfl (by decide) ?_
        refine p_const 40 rfl rfl ?_
        refine p_iret rfl rfl ?_
        -- leaf 4: answer [.inl (-1)] h=h 
        exact K _ _ ⟨Keep.rf _ _, Or.inl ⟨fun z => c4 z.2.2.2, rfl⟩⟩ S
    · show Wp (d + 8) 0 0 M_X12_read 19 [some (.inr (.inr 66)), some (.inl v), some (.inl s), some (.inl t), some (.inl (kb h))] [.inl 0] h _
      refine p_if_eq_t 39 rfl rfl (by decide) ?_
      refine p_const 40 rfl rfl ?_
      refine p_iret rfl rfl ?_
      -- leaf 5: answer [.inl (-1)] h=h 
      exact K _ _ ⟨Keep.rf _ _, Or.inl ⟨fun z => c3 z.2.2.1, rfl⟩⟩ S

