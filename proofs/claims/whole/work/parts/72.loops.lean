/-! CHANGE, the model's loops (by wip/whole/gen/gen72.py) -/
def bitV (x m : Int) : Int := if x < m then w64 (1 * 2 ^ x.toNat) else 0
def addS (x m : Int) (S : List Int) : List Int := if x < m then x :: S else S
theorem m_bit {d : Nat} {h : PH} {q : PQ} (_S : Shape h) (x m : Int) (x0 : 0 ≤ x) (m40 : m ≤ 40) (K : q (some (.inr (.inl (bitV x m)))) h) : Wp (d + 1) 0 0 M_X12_bit 0 [some (.inl x), some (.inl m)] [] h q := by
  unfold bitV at K
  refine p_iload 1 rfl rfl rfl ?_
  refine p_iload 2 rfl rfl rfl ?_
  refine p_ic_ge 5 11 rfl rfl rfl (fun c1 => ?_) (fun c1 => ?_)
  · skip
    refine p_lconst 12 rfl rfl ?_
    refine p_lret rfl rfl ?_
    -- leaf 1: answer [.inr (.inl 0)] h=h 
    rw [if_neg (by omega)] at K; exact K
  · skip
    refine p_lconst 6 rfl rfl ?_
    refine p_iload 7 rfl rfl rfl ?_
    refine p_lshl (z := w64 (1 * 2 ^ (x).toNat)) 8 rfl rfl (by omega) (by omega) rfl ?_
    refine p_goto 12 rfl rfl ?_
    refine p_lret rfl rfl ?_
    -- leaf 2: answer [.inr (.inl (w64 (1 * 2 ^ (x).toNat)))] h=h 
    rw [if_pos (by omega)] at K; exact K
theorem or64_0l {u : Int} (b : b40 u) : or64 0 u = u := by
  have := b.1
  have := b.2
  rw [or64_nat ⟨by decide, by decide⟩ ⟨by omega, by omega⟩]
  show ((0 ||| u.toNat : Nat) : Int) = u
  rw [Nat.zero_or]; omega
theorem or64_0r {u : Int} (b : b40 u) : or64 u 0 = u := by
  have := b.1
  have := b.2
  rw [or64_nat ⟨by omega, by omega⟩ ⟨by decide, by decide⟩]
  show ((u.toNat ||| 0 : Nat) : Int) = u
  rw [Nat.or_zero]; omega
theorem setL_or {s x m : Int} {S : List Int} (e : setL s S) (x0 : 0 ≤ x) (m40 : m ≤ 40) : setL (or64 s (bitV x m)) (addS x m S) := by
  unfold bitV addS
  by_cases c : x < m
  · rw [if_pos c, if_pos c]; exact setL_add e x0 (by omega)
  · rw [if_neg c, if_neg c, or64_0r e.1]; exact e
theorem setL_bit {x m : Int} (x0 : 0 ≤ x) (m40 : m ≤ 40) : setL (bitV x m) (addS x m []) := by
  have y := setL_or setL_nil x0 m40 (m := m)
  have b : b40 (bitV x m) := by
    unfold bitV
    by_cases c : x < m
    · rw [if_pos c, w64_p2 (by omega)]
      have h1 : (2 : Nat) ^ x.toNat ≤ 2 ^ 39 := Nat.pow_le_pow_right (by decide) (by omega)
      have h2 : (2 : Nat) ^ 39 < 1099511627776 := by decide
      exact ⟨Int.natCast_nonneg _, by omega⟩
    · rw [if_neg c]; exact ⟨by decide, by decide⟩
  rw [or64_0l b] at y
  exact y
def stA (a i : Int) : Bool := decide ((a = 66 ∧ i = 87) ∨ a = 127)
section LOOPS
variable {d : Nat} {h : PH} {q : PQ} {C : List P4} {m y nb : Int} {n : Nat}
/-- what comes of a row found -/
def FK (h : PH) (q : PQ) (y : Int) (l : List Int) : Prop := ∀ h', Keep stA h h' → gv h' 66 87 = y → (∀ (i : Nat) w, l[i]? = some w → gv h' 127 i = w) → Shape h' → q (some (.inl y)) h'

set_option maxRecDepth 4000 in
theorem chq5 (S0 : Shape h) (Y : CMr h C) (hy : y = n) (n4 : n ≤ 4) (m0 : 0 ≤ m) (m40 : m ≤ 40) (va vb vc ve lo : Int) (i0 : 0 ≤ va ∧ 0 ≤ vb ∧ 0 ≤ vc ∧ 0 ≤ ve) (i1 : va ≤ m ∧ vb ≤ m ∧ vc ≤ m ∧ ve ≤ m) (P S : List Int) (hs : setL (or64 (or64 (or64 (bitV va m) (bitV vb m)) (bitV vc m)) (bitV ve m)) S) (hP : ∀ (i : Nat) w, P[i]? = some w → [va, vb, vc, ve][i]? = some w)
    (hF : ∀ l, fnd C m (n - 4) lo S = some l → FK h q y (P ++ l)) (hN : fnd C m (n - 4) lo S = none → Wp (d + 2) 0 0 M_X12_change 312 [some (.inr (.inr 66)), some (.inl nb), some (.inl m), some (.inl y), some (.inl va), some (.inl vb), some (.inl vc), some (.inl ve)] [] h q) :
    Wp (d + 2) 0 0 M_X12_change 236 [some (.inr (.inr 66)), some (.inl nb), some (.inl m), some (.inl y), some (.inl va), some (.inl vb), some (.inl vc), some (.inl ve)] [] h q := by
  have n0 : n - 4 = 0 := by omega
  rw [n0] at hF hN
  refine p_aload 237 rfl rfl rfl ?_
  refine p_iload 239 rfl rfl rfl ?_
  refine p_iload 240 rfl rfl rfl ?_
  refine p_calls (le := [some (.inl va), some (.inl m)]) (as := [.inl va, .inl m]) (rest := [.inr (.inr 66)]) 243 0 0 0 0 rfl rfl (Nat.le_of_ble_eq_true rfl) rfl (Nat.le_of_ble_eq_true rfl) rfl rfl (Nat.le_of_ble_eq_true rfl) rfl (Nat.le_of_ble_eq_true rfl) rfl (Nat.le_refl _) (Nat.le_refl _) rfl rfl ?_
  refine m_bit S0 va m (by omega) m40 ?_
  show Wp (d + 2) 0 0 M_X12_change 243 [some (.inr (.inr 66)), some (.inl nb), some (.inl m), some (.inl y), some (.inl va), some (.inl vb), some (.inl vc), some (.inl ve)] [.inr (.inl (bitV va m)), .inr (.inr 66)] h _
  refine p_iload 245 rfl rfl rfl ?_
  refine p_iload 246 rfl rfl rfl ?_
  refine p_calls (le := [some (.inl vb), some (.inl m)]) (as := [.inl vb, .inl m]) (rest := [.inr (.inl (bitV va m)), .inr (.inr 66)]) 249 0 0 0 0 rfl rfl (Nat.le_of_ble_eq_true rfl) rfl (Nat.le_of_ble_eq_true rfl) rfl rfl (Nat.le_of_ble_eq_true rfl) rfl (Nat.le_of_ble_eq_true rfl) rfl (Nat.le_refl _) (Nat.le_refl _) rfl rfl ?_
  refine m_bit S0 vb m (by omega) m40 ?_
  show Wp (d + 2) 0 0 M_X12_change 249 [some (.inr (.inr 66)), some (.inl nb), some (.inl m), some (.inl y), some (.inl va), some (.inl vb), some (.inl vc), some (.inl ve)] [.inr (.inl (bitV vb m)), .inr (.inl (bitV va m)), .inr (.inr 66)] h _
  refine p_lor (z := or64 (bitV va m) (bitV vb m)) 250 rfl rfl rfl ?_
  refine p_iload 252 rfl rfl rfl ?_
  refine p_iload 253 rfl rfl rfl ?_
  refine p_calls (le := [some (.inl vc), some (.inl m)]) (as := [.inl vc, .inl m]) (rest := [.inr (.inl (or64 (bitV va m) (bitV vb m))), .inr (.inr 66)]) 256 0 0 0 0 rfl rfl (Nat.le_of_ble_eq_true rfl) rfl (Nat.le_of_ble_eq_true rfl) rfl rfl (Nat.le_of_ble_eq_true rfl) rfl (Nat.le_of_ble_eq_true rfl) rfl (Nat.le_refl _) (Nat.le_refl _) rfl rfl ?_
  refine m_bit S0 vc m (by omega) m40 ?_
  show Wp (d + 2) 0 0 M_X12_change 256 [some (.inr (.inr 66)), some (.inl nb), some (.inl m), some (.inl y), some (.inl va), some (.inl vb), some (.inl vc), some (.inl ve)] [.inr (.inl (bitV vc m)), .inr (.inl (or64 (bitV va m) (bitV vb m))), .inr (.inr 66)] h _
  refine p_lor (z := or64 (or64 (bitV va m) (bitV vb m)) (bitV vc m)) 257 rfl rfl rfl ?_
  refine p_iload 259 rfl rfl rfl ?_
  refine p_iload 260 rfl rfl rfl ?_
  refine p_calls (le := [some (.inl ve), some (.inl m)]) (as := [.inl ve, .inl m]) (rest := [.inr (.inl (or64 (or64 (bitV va m) (bitV vb m)) (bitV vc m))), .inr (.inr 66)]) 263 0 0 0 0 rfl rfl (Nat.le_of_ble_eq_true rfl) rfl (Nat.le_of_ble_eq_true rfl) rfl rfl (Nat.le_of_ble_eq_true rfl) rfl (Nat.le_of_ble_eq_true rfl) rfl (Nat.le_refl _) (Nat.le_refl _) rfl rfl ?_
  refine m_bit S0 ve m (by omega) m40 ?_
  show Wp (d + 2) 0 0 M_X12_change 263 [some (.inr (.inr 66)), some (.inl nb), some (.inl m), some (.inl y), some (.inl va), some (.inl vb), some (.inl vc), some (.inl ve)] [.inr (.inl (bitV ve m)), .inr (.inl (or64 (or64 (bitV va m) (bitV vb m)) (bitV vc m))), .inr (.inr 66)] h _
  refine p_lor (z := or64 (or64 (or64 (bitV va m) (bitV vb m)) (bitV vc m)) (bitV ve m)) 264 rfl rfl rfl ?_
  refine p_callv (le := [some (.inr (.inr 66)), some (.inr (.inl (or64 (or64 (or64 (bitV va m) (bitV vb m)) (bitV vc m)) (bitV ve m)))), none, none, none, none]) (as := [.inr (.inr 66), .inr (.inl (or64 (or64 (or64 (bitV va m) (bitV vb m)) (bitV vc m)) (bitV ve m)))]) (rest := []) 267 0 0 0 0 rfl rfl (Nat.le_of_ble_eq_true rfl) rfl (Nat.le_of_ble_eq_true rfl) rfl rfl (Nat.le_of_ble_eq_true rfl) rfl (Nat.le_of_ble_eq_true rfl) rfl (Nat.le_refl _) (Nat.le_refl _) rfl rfl (tg_66 S0) ?_
  refine m_hits S0 (or64 (or64 (or64 (bitV va m) (bitV vb m)) (bitV vc m)) (bitV ve m)) Y hs (fun c5 => ?_) (fun c5 => ?_)
  · show Wp (d + 2) 0 0 M_X12_change 267 [some (.inr (.inr 66)), some (.inl nb), some (.inl m), some (.inl y), some (.inl va), some (.inl vb), some (.inl vc), some (.inl ve)] [.inl 1] h _
    refine p_if_ne_t 273 rfl rfl (by decide) ?_
    refine p_aload 274 rfl rfl rfl ?_
    refine p_iload 275 rfl rfl rfl ?_
    refine p_putfi (j := 87) 278 rfl rfl rfl (fun z => absurd z (by decide)) (tg_66 S0) rfl ?_
    refine p_nmh (fun y6 e6 => ?_)
    have S6 : Shape y6 := by rw [e6]; exact S0.svF ff_66_87 _
    refine p_aload 279 rfl rfl rfl ?_
    refine p_getfr (j := 88) (z := 127) 282 rfl rfl rfl (tg_66 S6) rfl (fi_66_88 S6) ?_
    refine p_const 283 rfl rfl ?_
    refine p_iload 285 rfl rfl rfl ?_
    refine p_iast (w := 4) 286 rfl rfl (by decide) (tg_127 S6) (ln_127 S6) (by decide) (by decide) ?_
    refine p_nmh (fun y7 e7 => ?_)
    have S7 : Shape y7 := by rw [e7]; exact S6.svA fa_127 _ _
    refine p_aload 287 rfl rfl rfl ?_
    refine p_getfr (j := 88) (z := 127) 290 rfl rfl rfl (tg_66 S7) rfl (fi_66_88 S7) ?_
    refine p_const 291 rfl rfl ?_
    refine p_iload 293 rfl rfl rfl ?_
    refine p_iast (w := 4) 294 rfl rfl (by decide) (tg_127 S7) (ln_127 S7) (by decide) (by decide) ?_
    refine p_nmh (fun y8 e8 => ?_)
    have S8 : Shape y8 := by rw [e8]; exact S7.svA fa_127 _ _
    refine p_aload 295 rfl rfl rfl ?_
    refine p_getfr (j := 88) (z := 127) 298 rfl rfl rfl (tg_66 S8) rfl (fi_66_88 S8) ?_
    refine p_const 299 rfl rfl ?_
    refine p_iload 301 rfl rfl rfl ?_
    refine p_iast (w := 4) 302 rfl rfl (by decide) (tg_127 S8) (ln_127 S8) (by decide) (by decide) ?_
    refine p_nmh (fun y9 e9 => ?_)
    have S9 : Shape y9 := by rw [e9]; exact S8.svA fa_127 _ _
    refine p_aload 303 rfl rfl rfl ?_
    refine p_getfr (j := 88) (z := 127) 306 rfl rfl rfl (tg_66 S9) rfl (fi_66_88 S9) ?_
    refine p_const 307 rfl rfl ?_
    refine p_iload 309 rfl rfl rfl ?_
    refine p_iast (w := 4) 310 rfl rfl (by decide) (tg_127 S9) (ln_127 S9) (by decide) (by decide) ?_
    refine p_nmh (fun y10 e10 => ?_)
    have S10 : Shape y10 := by rw [e10]; exact S9.svA fa_127 _ _
    refine p_iload 311 rfl rfl rfl ?_
    refine p_iret rfl rfl ?_
    -- leaf 1: answer [.inl y] h=y10 e10,e9,e8,e7,e6
    have z := hF [] (fnd_zero.1 c5)
    rw [List.append_nil] at z
    refine z _ ?_ ?_ ?_ S10
    · rw [e10, e9, e8, e7, e6]; exact (((((Keep.rf _ _).sv rfl _).sv rfl _).sv rfl _).sv rfl _).sv rfl _
    · rw [e10, e9, e8, e7, e6, sv_ne (by decide), sv_ne (by decide), sv_ne (by decide), sv_ne (by decide), sv_eq]
    · intro i w hw
      have o := hP i w hw
      rw [e10, e9, e8, e7, e6]
      match i, o with
      | 0, o => cases o; rw [sv_nf (by decide), sv_nf (by decide), sv_nf (by decide)]; exact sv_eq _ _ _ _
      | 1, o => cases o; rw [sv_nf (by decide), sv_nf (by decide)]; exact sv_eq _ _ _ _
      | 2, o => cases o; rw [sv_nf (by decide)]; exact sv_eq _ _ _ _
      | 3, o => cases o; exact sv_eq _ _ _ _
      | (i + 4), o => cases o
  · show Wp (d + 2) 0 0 M_X12_change 267 [some (.inr (.inr 66)), some (.inl nb), some (.inl m), some (.inl y), some (.inl va), some (.inl vb), some (.inl vc), some (.inl ve)] [.inl 0] h _
    refine p_if_ne_f 270 rfl rfl (by decide) ?_
    refine p_goto 312 rfl rfl ?_
    -- leaf 2: loop 312 [some (.inr (.inr 66)), some (.inl nb), some (.inl m), some (.inl y), some (.inl va), some (.inl vb), some (.inl vc), some (.inl ve)] st=[] h=h 
    exact hN (fnd_zero.2 c5)

set_option maxRecDepth 4000 in
theorem chq4 (S0 : Shape h) (Y : CMr h C) (hy : y = n) (n4 : n ≤ 4) (m0 : 0 ≤ m) (m40 : m ≤ 40) (va vb vc : Int) (i0 : 0 ≤ va ∧ 0 ≤ vb ∧ 0 ≤ vc) (i1 : va ≤ m ∧ vb ≤ m ∧ vc ≤ m) (P S : List Int) (hs : setL (or64 (or64 (bitV va m) (bitV vb m)) (bitV vc m)) S) (hP : ∀ (i : Nat) w, P[i]? = some w → [va, vb, vc][i]? = some w) (hPl : P.length = min n 3) (w7 : Option PV)
    (hF : ∀ l, fnd C m (n - 3) ((vc + 1)) S = some l → FK h q y (P ++ l)) (hN : fnd C m (n - 3) ((vc + 1)) S = none → ∀ (w7 : Option PV), Wp (d + 2) 0 0 M_X12_change 318 [some (.inr (.inr 66)), some (.inl nb), some (.inl m), some (.inl y), some (.inl va), some (.inl vb), some (.inl vc), w7] [] h q) :
    Wp (d + 2) 0 0 M_X12_change 204 [some (.inr (.inr 66)), some (.inl nb), some (.inl m), some (.inl y), some (.inl va), some (.inl vb), some (.inl vc), w7] [] h q := by
  by_cases c : 4 ≤ n
  · have hr : n - 3 = (n - 4) + 1 := by omega
    rw [hr] at hF hN
    have J : ∀ (c : Nat) (ve : Int), (m - ve).toNat = c → (vc + 1) ≤ ve → fnd C m ((n - 4) + 1) ((vc + 1)) S = flF (fun s T => fnd C m (n - 4) s T) S c ve → Wp (d + 2) 0 0 M_X12_change 219 [some (.inr (.inr 66)), some (.inl nb), some (.inl m), some (.inl y), some (.inl va), some (.inl vb), some (.inl vc), some (.inl ve)] [] h q := by
      intro c
      induction c with
      | zero =>
        intro ve hx x0 ef
        skip
        refine p_iload 221 rfl rfl rfl ?_
        refine p_iload 222 rfl rfl rfl ?_
        refine p_const 223 rfl rfl ?_
        refine p_ic_le_f 226 rfl rfl (by omega) ?_
        refine p_iload 227 rfl rfl rfl ?_
        refine p_goto 233 rfl rfl ?_
        refine p_ic_ge_t 318 rfl rfl (by omega) ?_
        -- leaf 1: loop 318 [some (.inr (.inr 66)), some (.inl nb), some (.inl m), some (.inl y), some (.inl va), some (.inl vb), some (.inl vc), some (.inl ve)] st=[] h=h 
        exact hN ef _
      | succ c ih =>
        intro ve hx x0 ef
        skip
        have go : Wp (d + 2) 0 0 M_X12_change 236 [some (.inr (.inr 66)), some (.inl nb), some (.inl m), some (.inl y), some (.inl va), some (.inl vb), some (.inl vc), some (.inl ve)] [] h q := by
          have z := setL_or hs (x := ve) (by omega) m40 (m := m)
          unfold addS at z
          rw [if_pos (by omega)] at z
          skip
          refine chq5 S0 Y hy n4 m0 m40 va vb vc ve (ve + 1) (⟨i0.1, i0.2.1, i0.2.2, by omega⟩) (⟨i1.1, i1.2.1, i1.2.2, by omega⟩) (P ++ [ve]) (ve :: S) z (fun i w hw => ?_) (fun l hl => ?_) (fun hn => ?_)
          · rcases snoc_get hw with ⟨j1, j2⟩ | ⟨j1, j2⟩
            · have o := hP i w j2
              rw [show ([va, vb, vc, ve] : List Int) = [va, vb, vc] ++ [ve] from rfl, List.getElem?_append_left (get_lt o)]; exact o
            · rw [j1, hPl, show min n 3 = 3 by omega, j2]; rfl
          · rw [List.append_assoc]
            refine hF (ve :: l) ?_
            rw [ef]
            show (match fnd C m (n - 4) (ve + 1) (ve :: S) with | some l => some (ve :: l) | none => flF (fun s T => fnd C m (n - 4) s T) S c (ve + 1)) = _
            rw [hl]
          · skip
            refine p_iinc (y := ve + 1) (ls' := [some (.inr (.inr 66)), some (.inl nb), some (.inl m), some (.inl y), some (.inl va), some (.inl vb), some (.inl vc), some (.inl (ve + 1))]) 315 rfl rfl rfl (w32_id ⟨(by omega), (by omega)⟩) rfl ?_
            refine p_goto 219 rfl rfl ?_
            -- leaf 1: loop 219 [some (.inr (.inr 66)), some (.inl nb), some (.inl m), some (.inl y), some (.inl va), some (.inl vb), some (.inl vc), some (.inl (ve + 1))] st=[] h=h 
            refine ih (ve + 1) (by omega) (by omega) ?_
            rw [ef]
            show (match fnd C m (n - 4) (ve + 1) (ve :: S) with | some l => some (ve :: l) | none => flF (fun s T => fnd C m (n - 4) s T) S c (ve + 1)) = _
            rw [hn]
        refine p_iload 221 rfl rfl rfl ?_
        refine p_iload 222 rfl rfl rfl ?_
        refine p_const 223 rfl rfl ?_
        refine p_ic_le_f 226 rfl rfl (by omega) ?_
        refine p_iload 227 rfl rfl rfl ?_
        refine p_goto 233 rfl rfl ?_
        refine p_ic_ge_f 236 rfl rfl (by omega) ?_
        -- leaf 1: loop 236 [some (.inr (.inr 66)), some (.inl nb), some (.inl m), some (.inl y), some (.inl va), some (.inl vb), some (.inl vc), some (.inl ve)] st=[] h=h 
        exact go
    refine p_iload 205 rfl rfl rfl ?_
    refine p_const 206 rfl rfl ?_
    refine p_ic_le_f 209 rfl rfl (by omega) ?_
    refine p_iload 211 rfl rfl rfl ?_
    refine p_const 212 rfl rfl ?_
    refine p_iadd (z := vc + 1) 213 rfl rfl (w32_id ⟨(by omega), (by omega)⟩) ?_
    refine p_goto 217 rfl rfl ?_
    refine p_istore (ls' := [some (.inr (.inr 66)), some (.inl nb), some (.inl m), some (.inl y), some (.inl va), some (.inl vb), some (.inl vc), some (.inl (vc + 1))]) 219 rfl rfl (Nat.le_of_ble_eq_true rfl) rfl ?_
    -- leaf 1: loop 219 [some (.inr (.inr 66)), some (.inl nb), some (.inl m), some (.inl y), some (.inl va), some (.inl vb), some (.inl vc), some (.inl (vc + 1))] st=[] h=h 
    exact J (m - ((vc + 1))).toNat ((vc + 1)) (by omega) (Int.le_refl _) rfl
  · have hr : n - 3 = 0 := by omega
    have hr' : n - 4 = 0 := by omega
    rw [hr] at hF hN
    have out : fnd C m 0 ((vc + 1)) S = none → ∀ (ve : Int), ve = m + 1 → Wp (d + 2) 0 0 M_X12_change 219 [some (.inr (.inr 66)), some (.inl nb), some (.inl m), some (.inl y), some (.inl va), some (.inl vb), some (.inl vc), some (.inl ve)] [] h q := by
      intro hn ve hx
      skip
      refine p_iload 221 rfl rfl rfl ?_
      refine p_iload 222 rfl rfl rfl ?_
      refine p_const 223 rfl rfl ?_
      refine p_ic_le_t 230 rfl rfl (by omega) ?_
      refine p_iload 231 rfl rfl rfl ?_
      refine p_const 232 rfl rfl ?_
      refine p_iadd (z := m + 1) 233 rfl rfl (w32_id ⟨(by omega), (by omega)⟩) ?_
      refine p_ic_ge_t 318 rfl rfl (by omega) ?_
      -- leaf 1: loop 318 [some (.inr (.inr 66)), some (.inl nb), some (.inl m), some (.inl y), some (.inl va), some (.inl vb), some (.inl vc), some (.inl ve)] st=[] h=h 
      exact hN hn _
    have go : ∀ (ve : Int), ve = m → Wp (d + 2) 0 0 M_X12_change 236 [some (.inr (.inr 66)), some (.inl nb), some (.inl m), some (.inl y), some (.inl va), some (.inl vb), some (.inl vc), some (.inl ve)] [] h q := by
      intro ve hx
      skip
      have z := setL_or hs (x := ve) (by omega) m40 (m := m)
      unfold addS at z
      rw [if_neg (by omega)] at z
      skip
      refine chq5 S0 Y hy n4 m0 m40 va vb vc ve (ve + 1) (⟨i0.1, i0.2.1, i0.2.2, by omega⟩) (⟨i1.1, i1.2.1, i1.2.2, by omega⟩) P S z (fun i w hw => ?_) (fun l hl => ?_) (fun hn => ?_)
      · have o := hP i w hw
        rw [show ([va, vb, vc, ve] : List Int) = [va, vb, vc] ++ [ve] from rfl, List.getElem?_append_left (get_lt o)]; exact o
      · rw [hr'] at hl
        exact hF l hl
      · rw [hr'] at hn
        skip
        refine p_iinc (y := ve + 1) (ls' := [some (.inr (.inr 66)), some (.inl nb), some (.inl m), some (.inl y), some (.inl va), some (.inl vb), some (.inl vc), some (.inl (ve + 1))]) 315 rfl rfl rfl (w32_id ⟨(by omega), (by omega)⟩) rfl ?_
        refine p_goto 219 rfl rfl ?_
        -- leaf 1: loop 219 [some (.inr (.inr 66)), some (.inl nb), some (.inl m), some (.inl y), some (.inl va), some (.inl vb), some (.inl vc), some (.inl (ve + 1))] st=[] h=h 
        exact out hn (ve + 1) (by omega)
    have go2 : ∀ (ve : Int), ve = m → Wp (d + 2) 0 0 M_X12_change 219 [some (.inr (.inr 66)), some (.inl nb), some (.inl m), some (.inl y), some (.inl va), some (.inl vb), some (.inl vc), some (.inl ve)] [] h q := by
      intro ve hx
      skip
      refine p_iload 221 rfl rfl rfl ?_
      refine p_iload 222 rfl rfl rfl ?_
      refine p_const 223 rfl rfl ?_
      refine p_ic_le_t 230 rfl rfl (by omega) ?_
      refine p_iload 231 rfl rfl rfl ?_
      refine p_const 232 rfl rfl ?_
      refine p_iadd (z := m + 1) 233 rfl rfl (w32_id ⟨(by omega), (by omega)⟩) ?_
      refine p_ic_ge_f 236 rfl rfl (by omega) ?_
      -- leaf 1: loop 236 [some (.inr (.inr 66)), some (.inl nb), some (.inl m), some (.inl y), some (.inl va), some (.inl vb), some (.inl vc), some (.inl ve)] st=[] h=h 
      exact go ve hx
    refine p_iload 205 rfl rfl rfl ?_
    refine p_const 206 rfl rfl ?_
    refine p_ic_le_t 216 rfl rfl (by omega) ?_
    refine p_iload 217 rfl rfl rfl ?_
    refine p_istore (ls' := [some (.inr (.inr 66)), some (.inl nb), some (.inl m), some (.inl y), some (.inl va), some (.inl vb), some (.inl vc), some (.inl m)]) 219 rfl rfl (Nat.le_of_ble_eq_true rfl) rfl ?_
    -- leaf 1: loop 219 [some (.inr (.inr 66)), some (.inl nb), some (.inl m), some (.inl y), some (.inl va), some (.inl vb), some (.inl vc), some (.inl m)] st=[] h=h 
    exact go2 m rfl
set_option maxRecDepth 4000 in
theorem chq3 (S0 : Shape h) (Y : CMr h C) (hy : y = n) (n4 : n ≤ 4) (m0 : 0 ≤ m) (m40 : m ≤ 40) (va vb : Int) (i0 : 0 ≤ va ∧ 0 ≤ vb) (i1 : va ≤ m ∧ vb ≤ m) (P S : List Int) (hs : setL (or64 (bitV va m) (bitV vb m)) S) (hP : ∀ (i : Nat) w, P[i]? = some w → [va, vb][i]? = some w) (hPl : P.length = min n 2) (w6 w7 : Option PV)
    (hF : ∀ l, fnd C m (n - 2) ((vb + 1)) S = some l → FK h q y (P ++ l)) (hN : fnd C m (n - 2) ((vb + 1)) S = none → ∀ (w6 w7 : Option PV), Wp (d + 2) 0 0 M_X12_change 324 [some (.inr (.inr 66)), some (.inl nb), some (.inl m), some (.inl y), some (.inl va), some (.inl vb), w6, w7] [] h q) :
    Wp (d + 2) 0 0 M_X12_change 172 [some (.inr (.inr 66)), some (.inl nb), some (.inl m), some (.inl y), some (.inl va), some (.inl vb), w6, w7] [] h q := by
  by_cases c : 3 ≤ n
  · have hr : n - 2 = (n - 3) + 1 := by omega
    rw [hr] at hF hN
    have J : ∀ (c : Nat) (vc : Int), (m - vc).toNat = c → (vb + 1) ≤ vc → fnd C m ((n - 3) + 1) ((vb + 1)) S = flF (fun s T => fnd C m (n - 3) s T) S c vc → ∀ (w7 : Option PV), Wp (d + 2) 0 0 M_X12_change 187 [some (.inr (.inr 66)), some (.inl nb), some (.inl m), some (.inl y), some (.inl va), some (.inl vb), some (.inl vc), w7] [] h q := by
      intro c
      induction c with
      | zero =>
        intro vc hx x0 ef
        intro w7
        refine p_iload 189 rfl rfl rfl ?_
        refine p_iload 190 rfl rfl rfl ?_
        refine p_const 191 rfl rfl ?_
        refine p_ic_le_f 194 rfl rfl (by omega) ?_
        refine p_iload 195 rfl rfl rfl ?_
        refine p_goto 201 rfl rfl ?_
        refine p_ic_ge_t 324 rfl rfl (by omega) ?_
        -- leaf 1: loop 324 [some (.inr (.inr 66)), some (.inl nb), some (.inl m), some (.inl y), some (.inl va), some (.inl vb), some (.inl vc), w7] st=[] h=h 
        exact hN ef _ _
      | succ c ih =>
        intro vc hx x0 ef
        intro w7
        have go : Wp (d + 2) 0 0 M_X12_change 204 [some (.inr (.inr 66)), some (.inl nb), some (.inl m), some (.inl y), some (.inl va), some (.inl vb), some (.inl vc), w7] [] h q := by
          have z := setL_or hs (x := vc) (by omega) m40 (m := m)
          unfold addS at z
          rw [if_pos (by omega)] at z
          skip
          refine chq4 S0 Y hy n4 m0 m40 va vb vc (⟨i0.1, i0.2, by omega⟩) (⟨i1.1, i1.2, by omega⟩) (P ++ [vc]) (vc :: S) z (fun i w hw => ?_) ?_ _ (fun l hl => ?_) (fun hn => ?_)
          · rcases snoc_get hw with ⟨j1, j2⟩ | ⟨j1, j2⟩
            · have o := hP i w j2
              rw [show ([va, vb, vc] : List Int) = [va, vb] ++ [vc] from rfl, List.getElem?_append_left (get_lt o)]; exact o
            · rw [j1, hPl, show min n 2 = 2 by omega, j2]; rfl
          · rw [List.length_append, hPl]; show min n 2 + 1 = min n 3; omega
          · rw [List.append_assoc]
            refine hF (vc :: l) ?_
            rw [ef]
            show (match fnd C m (n - 3) (vc + 1) (vc :: S) with | some l => some (vc :: l) | none => flF (fun s T => fnd C m (n - 3) s T) S c (vc + 1)) = _
            rw [hl]
          · intro w7
            refine p_iinc (y := vc + 1) (ls' := [some (.inr (.inr 66)), some (.inl nb), some (.inl m), some (.inl y), some (.inl va), some (.inl vb), some (.inl (vc + 1)), w7]) 321 rfl rfl rfl (w32_id ⟨(by omega), (by omega)⟩) rfl ?_
            refine p_goto 187 rfl rfl ?_
            -- leaf 1: loop 187 [some (.inr (.inr 66)), some (.inl nb), some (.inl m), some (.inl y), some (.inl va), some (.inl vb), some (.inl (vc + 1)), w7] st=[] h=h 
            refine ih (vc + 1) (by omega) (by omega) ?_ _
            rw [ef]
            show (match fnd C m (n - 3) (vc + 1) (vc :: S) with | some l => some (vc :: l) | none => flF (fun s T => fnd C m (n - 3) s T) S c (vc + 1)) = _
            rw [hn]
        refine p_iload 189 rfl rfl rfl ?_
        refine p_iload 190 rfl rfl rfl ?_
        refine p_const 191 rfl rfl ?_
        refine p_ic_le_f 194 rfl rfl (by omega) ?_
        refine p_iload 195 rfl rfl rfl ?_
        refine p_goto 201 rfl rfl ?_
        refine p_ic_ge_f 204 rfl rfl (by omega) ?_
        -- leaf 1: loop 204 [some (.inr (.inr 66)), some (.inl nb), some (.inl m), some (.inl y), some (.inl va), some (.inl vb), some (.inl vc), w7] st=[] h=h 
        exact go
    refine p_iload 173 rfl rfl rfl ?_
    refine p_const 174 rfl rfl ?_
    refine p_ic_le_f 177 rfl rfl (by omega) ?_
    refine p_iload 179 rfl rfl rfl ?_
    refine p_const 180 rfl rfl ?_
    refine p_iadd (z := vb + 1) 181 rfl rfl (w32_id ⟨(by omega), (by omega)⟩) ?_
    refine p_goto 185 rfl rfl ?_
    refine p_istore (ls' := [some (.inr (.inr 66)), some (.inl nb), some (.inl m), some (.inl y), some (.inl va), some (.inl vb), some (.inl (vb + 1)), w7]) 187 rfl rfl (Nat.le_of_ble_eq_true rfl) rfl ?_
    -- leaf 1: loop 187 [some (.inr (.inr 66)), some (.inl nb), some (.inl m), some (.inl y), some (.inl va), some (.inl vb), some (.inl (vb + 1)), w7] st=[] h=h 
    exact J (m - ((vb + 1))).toNat ((vb + 1)) (by omega) (Int.le_refl _) rfl _
  · have hr : n - 2 = 0 := by omega
    have hr' : n - 3 = 0 := by omega
    rw [hr] at hF hN
    have out : fnd C m 0 ((vb + 1)) S = none → ∀ (vc : Int), vc = m + 1 → ∀ (w7 : Option PV), Wp (d + 2) 0 0 M_X12_change 187 [some (.inr (.inr 66)), some (.inl nb), some (.inl m), some (.inl y), some (.inl va), some (.inl vb), some (.inl vc), w7] [] h q := by
      intro hn vc hx
      intro w7
      refine p_iload 189 rfl rfl rfl ?_
      refine p_iload 190 rfl rfl rfl ?_
      refine p_const 191 rfl rfl ?_
      refine p_ic_le_t 198 rfl rfl (by omega) ?_
      refine p_iload 199 rfl rfl rfl ?_
      refine p_const 200 rfl rfl ?_
      refine p_iadd (z := m + 1) 201 rfl rfl (w32_id ⟨(by omega), (by omega)⟩) ?_
      refine p_ic_ge_t 324 rfl rfl (by omega) ?_
      -- leaf 1: loop 324 [some (.inr (.inr 66)), some (.inl nb), some (.inl m), some (.inl y), some (.inl va), some (.inl vb), some (.inl vc), w7] st=[] h=h 
      exact hN hn _ _
    have go : ∀ (vc : Int), vc = m → ∀ (w7 : Option PV), Wp (d + 2) 0 0 M_X12_change 204 [some (.inr (.inr 66)), some (.inl nb), some (.inl m), some (.inl y), some (.inl va), some (.inl vb), some (.inl vc), w7] [] h q := by
      intro vc hx
      intro w7
      have z := setL_or hs (x := vc) (by omega) m40 (m := m)
      unfold addS at z
      rw [if_neg (by omega)] at z
      skip
      refine chq4 S0 Y hy n4 m0 m40 va vb vc (⟨i0.1, i0.2, by omega⟩) (⟨i1.1, i1.2, by omega⟩) P S z (fun i w hw => ?_) ?_ _ (fun l hl => ?_) (fun hn => ?_)
      · have o := hP i w hw
        rw [show ([va, vb, vc] : List Int) = [va, vb] ++ [vc] from rfl, List.getElem?_append_left (get_lt o)]; exact o
      · rw [hPl]; omega
      · rw [hr'] at hl
        exact hF l hl
      · rw [hr'] at hn
        intro w7
        refine p_iinc (y := vc + 1) (ls' := [some (.inr (.inr 66)), some (.inl nb), some (.inl m), some (.inl y), some (.inl va), some (.inl vb), some (.inl (vc + 1)), w7]) 321 rfl rfl rfl (w32_id ⟨(by omega), (by omega)⟩) rfl ?_
        refine p_goto 187 rfl rfl ?_
        -- leaf 1: loop 187 [some (.inr (.inr 66)), some (.inl nb), some (.inl m), some (.inl y), some (.inl va), some (.inl vb), some (.inl (vc + 1)), w7] st=[] h=h 
        exact out hn (vc + 1) (by omega) _
    have go2 : ∀ (vc : Int), vc = m → ∀ (w7 : Option PV), Wp (d + 2) 0 0 M_X12_change 187 [some (.inr (.inr 66)), some (.inl nb), some (.inl m), some (.inl y), some (.inl va), some (.inl vb), some (.inl vc), w7] [] h q := by
      intro vc hx
      intro w7
      refine p_iload 189 rfl rfl rfl ?_
      refine p_iload 190 rfl rfl rfl ?_
      refine p_const 191 rfl rfl ?_
      refine p_ic_le_t 198 rfl rfl (by omega) ?_
      refine p_iload 199 rfl rfl rfl ?_
      refine p_const 200 rfl rfl ?_
      refine p_iadd (z := m + 1) 201 rfl rfl (w32_id ⟨(by omega), (by omega)⟩) ?_
      refine p_ic_ge_f 204 rfl rfl (by omega) ?_
      -- leaf 1: loop 204 [some (.inr (.inr 66)), some (.inl nb), some (.inl m), some (.inl y), some (.inl va), some (.inl vb), some (.inl vc), w7] st=[] h=h 
      exact go vc hx _
    refine p_iload 173 rfl rfl rfl ?_
    refine p_const 174 rfl rfl ?_
    refine p_ic_le_t 184 rfl rfl (by omega) ?_
    refine p_iload 185 rfl rfl rfl ?_
    refine p_istore (ls' := [some (.inr (.inr 66)), some (.inl nb), some (.inl m), some (.inl y), some (.inl va), some (.inl vb), some (.inl m), w7]) 187 rfl rfl (Nat.le_of_ble_eq_true rfl) rfl ?_
    -- leaf 1: loop 187 [some (.inr (.inr 66)), some (.inl nb), some (.inl m), some (.inl y), some (.inl va), some (.inl vb), some (.inl m), w7] st=[] h=h 
    exact go2 m rfl _
set_option maxRecDepth 4000 in
theorem chq2 (S0 : Shape h) (Y : CMr h C) (hy : y = n) (n4 : n ≤ 4) (m0 : 0 ≤ m) (m40 : m ≤ 40) (va : Int) (i0 : 0 ≤ va) (i1 : va ≤ m) (P S : List Int) (hs : setL (bitV va m) S) (hP : ∀ (i : Nat) w, P[i]? = some w → [va][i]? = some w) (hPl : P.length = min n 1) (w5 w6 w7 : Option PV)
    (hF : ∀ l, fnd C m (n - 1) ((va + 1)) S = some l → FK h q y (P ++ l)) (hN : fnd C m (n - 1) ((va + 1)) S = none → ∀ (w5 w6 w7 : Option PV), Wp (d + 2) 0 0 M_X12_change 330 [some (.inr (.inr 66)), some (.inl nb), some (.inl m), some (.inl y), some (.inl va), w5, w6, w7] [] h q) :
    Wp (d + 2) 0 0 M_X12_change 140 [some (.inr (.inr 66)), some (.inl nb), some (.inl m), some (.inl y), some (.inl va), w5, w6, w7] [] h q := by
  by_cases c : 2 ≤ n
  · have hr : n - 1 = (n - 2) + 1 := by omega
    rw [hr] at hF hN
    have J : ∀ (c : Nat) (vb : Int), (m - vb).toNat = c → (va + 1) ≤ vb → fnd C m ((n - 2) + 1) ((va + 1)) S = flF (fun s T => fnd C m (n - 2) s T) S c vb → ∀ (w6 w7 : Option PV), Wp (d + 2) 0 0 M_X12_change 155 [some (.inr (.inr 66)), some (.inl nb), some (.inl m), some (.inl y), some (.inl va), some (.inl vb), w6, w7] [] h q := by
      intro c
      induction c with
      | zero =>
        intro vb hx x0 ef
        intro w6 w7
        refine p_iload 157 rfl rfl rfl ?_
        refine p_iload 158 rfl rfl rfl ?_
        refine p_const 159 rfl rfl ?_
        refine p_ic_le_f 162 rfl rfl (by omega) ?_
        refine p_iload 163 rfl rfl rfl ?_
        refine p_goto 169 rfl rfl ?_
        refine p_ic_ge_t 330 rfl rfl (by omega) ?_
        -- leaf 1: loop 330 [some (.inr (.inr 66)), some (.inl nb), some (.inl m), some (.inl y), some (.inl va), some (.inl vb), w6, w7] st=[] h=h 
        exact hN ef _ _ _
      | succ c ih =>
        intro vb hx x0 ef
        intro w6 w7
        have go : Wp (d + 2) 0 0 M_X12_change 172 [some (.inr (.inr 66)), some (.inl nb), some (.inl m), some (.inl y), some (.inl va), some (.inl vb), w6, w7] [] h q := by
          have z := setL_or hs (x := vb) (by omega) m40 (m := m)
          unfold addS at z
          rw [if_pos (by omega)] at z
          skip
          refine chq3 S0 Y hy n4 m0 m40 va vb (⟨i0, by omega⟩) (⟨i1, by omega⟩) (P ++ [vb]) (vb :: S) z (fun i w hw => ?_) ?_ _ _ (fun l hl => ?_) (fun hn => ?_)
          · rcases snoc_get hw with ⟨j1, j2⟩ | ⟨j1, j2⟩
            · have o := hP i w j2
              rw [show ([va, vb] : List Int) = [va] ++ [vb] from rfl, List.getElem?_append_left (get_lt o)]; exact o
            · rw [j1, hPl, show min n 1 = 1 by omega, j2]; rfl
          · rw [List.length_append, hPl]; show min n 1 + 1 = min n 2; omega
          · rw [List.append_assoc]
            refine hF (vb :: l) ?_
            rw [ef]
            show (match fnd C m (n - 2) (vb + 1) (vb :: S) with | some l => some (vb :: l) | none => flF (fun s T => fnd C m (n - 2) s T) S c (vb + 1)) = _
            rw [hl]
          · intro w6 w7
            refine p_iinc (y := vb + 1) (ls' := [some (.inr (.inr 66)), some (.inl nb), some (.inl m), some (.inl y), some (.inl va), some (.inl (vb + 1)), w6, w7]) 327 rfl rfl rfl (w32_id ⟨(by omega), (by omega)⟩) rfl ?_
            refine p_goto 155 rfl rfl ?_
            -- leaf 1: loop 155 [some (.inr (.inr 66)), some (.inl nb), some (.inl m), some (.inl y), some (.inl va), some (.inl (vb + 1)), w6, w7] st=[] h=h 
            refine ih (vb + 1) (by omega) (by omega) ?_ _ _
            rw [ef]
            show (match fnd C m (n - 2) (vb + 1) (vb :: S) with | some l => some (vb :: l) | none => flF (fun s T => fnd C m (n - 2) s T) S c (vb + 1)) = _
            rw [hn]
        refine p_iload 157 rfl rfl rfl ?_
        refine p_iload 158 rfl rfl rfl ?_
        refine p_const 159 rfl rfl ?_
        refine p_ic_le_f 162 rfl rfl (by omega) ?_
        refine p_iload 163 rfl rfl rfl ?_
        refine p_goto 169 rfl rfl ?_
        refine p_ic_ge_f 172 rfl rfl (by omega) ?_
        -- leaf 1: loop 172 [some (.inr (.inr 66)), some (.inl nb), some (.inl m), some (.inl y), some (.inl va), some (.inl vb), w6, w7] st=[] h=h 
        exact go
    refine p_iload 141 rfl rfl rfl ?_
    refine p_const 142 rfl rfl ?_
    refine p_ic_le_f 145 rfl rfl (by omega) ?_
    refine p_iload 147 rfl rfl rfl ?_
    refine p_const 148 rfl rfl ?_
    refine p_iadd (z := va + 1) 149 rfl rfl (w32_id ⟨(by omega), (by omega)⟩) ?_
    refine p_goto 153 rfl rfl ?_
    refine p_istore (ls' := [some (.inr (.inr 66)), some (.inl nb), some (.inl m), some (.inl y), some (.inl va), some (.inl (va + 1)), w6, w7]) 155 rfl rfl (Nat.le_of_ble_eq_true rfl) rfl ?_
    -- leaf 1: loop 155 [some (.inr (.inr 66)), some (.inl nb), some (.inl m), some (.inl y), some (.inl va), some (.inl (va + 1)), w6, w7] st=[] h=h 
    exact J (m - ((va + 1))).toNat ((va + 1)) (by omega) (Int.le_refl _) rfl _ _
  · have hr : n - 1 = 0 := by omega
    have hr' : n - 2 = 0 := by omega
    rw [hr] at hF hN
    have out : fnd C m 0 ((va + 1)) S = none → ∀ (vb : Int), vb = m + 1 → ∀ (w6 w7 : Option PV), Wp (d + 2) 0 0 M_X12_change 155 [some (.inr (.inr 66)), some (.inl nb), some (.inl m), some (.inl y), some (.inl va), some (.inl vb), w6, w7] [] h q := by
      intro hn vb hx
      intro w6 w7
      refine p_iload 157 rfl rfl rfl ?_
      refine p_iload 158 rfl rfl rfl ?_
      refine p_const 159 rfl rfl ?_
      refine p_ic_le_t 166 rfl rfl (by omega) ?_
      refine p_iload 167 rfl rfl rfl ?_
      refine p_const 168 rfl rfl ?_
      refine p_iadd (z := m + 1) 169 rfl rfl (w32_id ⟨(by omega), (by omega)⟩) ?_
      refine p_ic_ge_t 330 rfl rfl (by omega) ?_
      -- leaf 1: loop 330 [some (.inr (.inr 66)), some (.inl nb), some (.inl m), some (.inl y), some (.inl va), some (.inl vb), w6, w7] st=[] h=h 
      exact hN hn _ _ _
    have go : ∀ (vb : Int), vb = m → ∀ (w6 w7 : Option PV), Wp (d + 2) 0 0 M_X12_change 172 [some (.inr (.inr 66)), some (.inl nb), some (.inl m), some (.inl y), some (.inl va), some (.inl vb), w6, w7] [] h q := by
      intro vb hx
      intro w6 w7
      have z := setL_or hs (x := vb) (by omega) m40 (m := m)
      unfold addS at z
      rw [if_neg (by omega)] at z
      skip
      refine chq3 S0 Y hy n4 m0 m40 va vb (⟨i0, by omega⟩) (⟨i1, by omega⟩) P S z (fun i w hw => ?_) ?_ _ _ (fun l hl => ?_) (fun hn => ?_)
      · have o := hP i w hw
        rw [show ([va, vb] : List Int) = [va] ++ [vb] from rfl, List.getElem?_append_left (get_lt o)]; exact o
      · rw [hPl]; omega
      · rw [hr'] at hl
        exact hF l hl
      · rw [hr'] at hn
        intro w6 w7
        refine p_iinc (y := vb + 1) (ls' := [some (.inr (.inr 66)), some (.inl nb), some (.inl m), some (.inl y), some (.inl va), some (.inl (vb + 1)), w6, w7]) 327 rfl rfl rfl (w32_id ⟨(by omega), (by omega)⟩) rfl ?_
        refine p_goto 155 rfl rfl ?_
        -- leaf 1: loop 155 [some (.inr (.inr 66)), some (.inl nb), some (.inl m), some (.inl y), some (.inl va), some (.inl (vb + 1)), w6, w7] st=[] h=h 
        exact out hn (vb + 1) (by omega) _ _
    have go2 : ∀ (vb : Int), vb = m → ∀ (w6 w7 : Option PV), Wp (d + 2) 0 0 M_X12_change 155 [some (.inr (.inr 66)), some (.inl nb), some (.inl m), some (.inl y), some (.inl va), some (.inl vb), w6, w7] [] h q := by
      intro vb hx
      intro w6 w7
      refine p_iload 157 rfl rfl rfl ?_
      refine p_iload 158 rfl rfl rfl ?_
      refine p_const 159 rfl rfl ?_
      refine p_ic_le_t 166 rfl rfl (by omega) ?_
      refine p_iload 167 rfl rfl rfl ?_
      refine p_const 168 rfl rfl ?_
      refine p_iadd (z := m + 1) 169 rfl rfl (w32_id ⟨(by omega), (by omega)⟩) ?_
      refine p_ic_ge_f 172 rfl rfl (by omega) ?_
      -- leaf 1: loop 172 [some (.inr (.inr 66)), some (.inl nb), some (.inl m), some (.inl y), some (.inl va), some (.inl vb), w6, w7] st=[] h=h 
      exact go vb hx _ _
    refine p_iload 141 rfl rfl rfl ?_
    refine p_const 142 rfl rfl ?_
    refine p_ic_le_t 152 rfl rfl (by omega) ?_
    refine p_iload 153 rfl rfl rfl ?_
    refine p_istore (ls' := [some (.inr (.inr 66)), some (.inl nb), some (.inl m), some (.inl y), some (.inl va), some (.inl m), w6, w7]) 155 rfl rfl (Nat.le_of_ble_eq_true rfl) rfl ?_
    -- leaf 1: loop 155 [some (.inr (.inr 66)), some (.inl nb), some (.inl m), some (.inl y), some (.inl va), some (.inl m), w6, w7] st=[] h=h 
    exact go2 m rfl _ _
set_option maxRecDepth 4000 in
theorem chq1 (S0 : Shape h) (Y : CMr h C) (hy : y = n) (n4 : n ≤ 4) (m0 : 0 ≤ m) (m40 : m ≤ 40) (P S : List Int) (hS : S = []) (hP : P = []) (hPl : P.length = min n 0) (w4 w5 w6 w7 : Option PV)
    (hF : ∀ l, fnd C m (n - 0) (0) S = some l → FK h q y (P ++ l)) (hN : fnd C m (n - 0) (0) S = none → ∀ (w4 w5 w6 w7 : Option PV), Wp (d + 2) 0 0 M_X12_change 336 [some (.inr (.inr 66)), some (.inl nb), some (.inl m), some (.inl y), w4, w5, w6, w7] [] h q) :
    Wp (d + 2) 0 0 M_X12_change 113 [some (.inr (.inr 66)), some (.inl nb), some (.inl m), some (.inl y), w4, w5, w6, w7] [] h q := by
  by_cases c : 1 ≤ n
  · have hr : n - 0 = (n - 1) + 1 := by omega
    rw [hr] at hF hN
    have J : ∀ (c : Nat) (va : Int), (m - va).toNat = c → 0 ≤ va → fnd C m ((n - 1) + 1) (0) S = flF (fun s T => fnd C m (n - 1) s T) S c va → ∀ (w5 w6 w7 : Option PV), Wp (d + 2) 0 0 M_X12_change 124 [some (.inr (.inr 66)), some (.inl nb), some (.inl m), some (.inl y), some (.inl va), w5, w6, w7] [] h q := by
      intro c
      induction c with
      | zero =>
        intro va hx x0 ef
        intro w5 w6 w7
        refine p_iload 126 rfl rfl rfl ?_
        refine p_iload 127 rfl rfl rfl ?_
        refine p_if_le_f 130 rfl rfl (by omega) ?_
        refine p_iload 131 rfl rfl rfl ?_
        refine p_goto 137 rfl rfl ?_
        refine p_ic_ge_t 336 rfl rfl (by omega) ?_
        -- leaf 1: loop 336 [some (.inr (.inr 66)), some (.inl nb), some (.inl m), some (.inl y), some (.inl va), w5, w6, w7] st=[] h=h 
        exact hN ef _ _ _ _
      | succ c ih =>
        intro va hx x0 ef
        intro w5 w6 w7
        have go : Wp (d + 2) 0 0 M_X12_change 140 [some (.inr (.inr 66)), some (.inl nb), some (.inl m), some (.inl y), some (.inl va), w5, w6, w7] [] h q := by
          have z := setL_bit (x := va) (by omega) m40 (m := m)
          unfold addS at z
          rw [if_pos (by omega)] at z
          rw [← hS] at z
          refine chq2 S0 Y hy n4 m0 m40 va (by omega) (by omega) (P ++ [va]) (va :: S) z (fun i w hw => ?_) ?_ _ _ _ (fun l hl => ?_) (fun hn => ?_)
          · rcases snoc_get hw with ⟨j1, j2⟩ | ⟨j1, j2⟩
            · rw [hP] at j2; cases j2
            · rw [j1, hPl, show min n 0 = 0 by omega, j2]; rfl
          · rw [List.length_append, hPl]; show min n 0 + 1 = min n 1; omega
          · rw [List.append_assoc]
            refine hF (va :: l) ?_
            rw [ef]
            show (match fnd C m (n - 1) (va + 1) (va :: S) with | some l => some (va :: l) | none => flF (fun s T => fnd C m (n - 1) s T) S c (va + 1)) = _
            rw [hl]
          · intro w5 w6 w7
            refine p_iinc (y := va + 1) (ls' := [some (.inr (.inr 66)), some (.inl nb), some (.inl m), some (.inl y), some (.inl (va + 1)), w5, w6, w7]) 333 rfl rfl rfl (w32_id ⟨(by omega), (by omega)⟩) rfl ?_
            refine p_goto 124 rfl rfl ?_
            -- leaf 1: loop 124 [some (.inr (.inr 66)), some (.inl nb), some (.inl m), some (.inl y), some (.inl (va + 1)), w5, w6, w7] st=[] h=h 
            refine ih (va + 1) (by omega) (by omega) ?_ _ _ _
            rw [ef]
            show (match fnd C m (n - 1) (va + 1) (va :: S) with | some l => some (va :: l) | none => flF (fun s T => fnd C m (n - 1) s T) S c (va + 1)) = _
            rw [hn]
        refine p_iload 126 rfl rfl rfl ?_
        refine p_iload 127 rfl rfl rfl ?_
        refine p_if_le_f 130 rfl rfl (by omega) ?_
        refine p_iload 131 rfl rfl rfl ?_
        refine p_goto 137 rfl rfl ?_
        refine p_ic_ge_f 140 rfl rfl (by omega) ?_
        -- leaf 1: loop 140 [some (.inr (.inr 66)), some (.inl nb), some (.inl m), some (.inl y), some (.inl va), w5, w6, w7] st=[] h=h 
        exact go
    refine p_iload 114 rfl rfl rfl ?_
    refine p_if_le_f 117 rfl rfl (by omega) ?_
    refine p_const 118 rfl rfl ?_
    refine p_goto 122 rfl rfl ?_
    refine p_istore (ls' := [some (.inr (.inr 66)), some (.inl nb), some (.inl m), some (.inl y), some (.inl 0), w5, w6, w7]) 124 rfl rfl (Nat.le_of_ble_eq_true rfl) rfl ?_
    -- leaf 1: loop 124 [some (.inr (.inr 66)), some (.inl nb), some (.inl m), some (.inl y), some (.inl 0), w5, w6, w7] st=[] h=h 
    exact J (m - (0)).toNat (0) (by omega) (Int.le_refl _) rfl _ _ _
  · have hr : n - 0 = 0 := by omega
    have hr' : n - 1 = 0 := by omega
    rw [hr] at hF hN
    have out : fnd C m 0 (0) S = none → ∀ (va : Int), va = m + 1 → ∀ (w5 w6 w7 : Option PV), Wp (d + 2) 0 0 M_X12_change 124 [some (.inr (.inr 66)), some (.inl nb), some (.inl m), some (.inl y), some (.inl va), w5, w6, w7] [] h q := by
      intro hn va hx
      intro w5 w6 w7
      refine p_iload 126 rfl rfl rfl ?_
      refine p_iload 127 rfl rfl rfl ?_
      refine p_if_le_t 134 rfl rfl (by omega) ?_
      refine p_iload 135 rfl rfl rfl ?_
      refine p_const 136 rfl rfl ?_
      refine p_iadd (z := m + 1) 137 rfl rfl (w32_id ⟨(by omega), (by omega)⟩) ?_
      refine p_ic_ge_t 336 rfl rfl (by omega) ?_
      -- leaf 1: loop 336 [some (.inr (.inr 66)), some (.inl nb), some (.inl m), some (.inl y), some (.inl va), w5, w6, w7] st=[] h=h 
      exact hN hn _ _ _ _
    have go : ∀ (va : Int), va = m → ∀ (w5 w6 w7 : Option PV), Wp (d + 2) 0 0 M_X12_change 140 [some (.inr (.inr 66)), some (.inl nb), some (.inl m), some (.inl y), some (.inl va), w5, w6, w7] [] h q := by
      intro va hx
      intro w5 w6 w7
      have z := setL_bit (x := va) (by omega) m40 (m := m)
      unfold addS at z
      rw [if_neg (by omega)] at z
      rw [← hS] at z
      refine chq2 S0 Y hy n4 m0 m40 va (by omega) (by omega) P S z (fun i w hw => ?_) ?_ _ _ _ (fun l hl => ?_) (fun hn => ?_)
      · rw [hP] at hw; cases hw
      · rw [hPl]; omega
      · rw [hr'] at hl
        exact hF l hl
      · rw [hr'] at hn
        intro w5 w6 w7
        refine p_iinc (y := va + 1) (ls' := [some (.inr (.inr 66)), some (.inl nb), some (.inl m), some (.inl y), some (.inl (va + 1)), w5, w6, w7]) 333 rfl rfl rfl (w32_id ⟨(by omega), (by omega)⟩) rfl ?_
        refine p_goto 124 rfl rfl ?_
        -- leaf 1: loop 124 [some (.inr (.inr 66)), some (.inl nb), some (.inl m), some (.inl y), some (.inl (va + 1)), w5, w6, w7] st=[] h=h 
        exact out hn (va + 1) (by omega) _ _ _
    have go2 : ∀ (va : Int), va = m → ∀ (w5 w6 w7 : Option PV), Wp (d + 2) 0 0 M_X12_change 124 [some (.inr (.inr 66)), some (.inl nb), some (.inl m), some (.inl y), some (.inl va), w5, w6, w7] [] h q := by
      intro va hx
      intro w5 w6 w7
      refine p_iload 126 rfl rfl rfl ?_
      refine p_iload 127 rfl rfl rfl ?_
      refine p_if_le_t 134 rfl rfl (by omega) ?_
      refine p_iload 135 rfl rfl rfl ?_
      refine p_const 136 rfl rfl ?_
      refine p_iadd (z := m + 1) 137 rfl rfl (w32_id ⟨(by omega), (by omega)⟩) ?_
      refine p_ic_ge_f 140 rfl rfl (by omega) ?_
      -- leaf 1: loop 140 [some (.inr (.inr 66)), some (.inl nb), some (.inl m), some (.inl y), some (.inl va), w5, w6, w7] st=[] h=h 
      exact go va hx _ _ _
    refine p_iload 114 rfl rfl rfl ?_
    refine p_if_le_t 121 rfl rfl (by omega) ?_
    refine p_iload 122 rfl rfl rfl ?_
    refine p_istore (ls' := [some (.inr (.inr 66)), some (.inl nb), some (.inl m), some (.inl y), some (.inl m), w5, w6, w7]) 124 rfl rfl (Nat.le_of_ble_eq_true rfl) rfl ?_
    -- leaf 1: loop 124 [some (.inr (.inr 66)), some (.inl nb), some (.inl m), some (.inl y), some (.inl m), w5, w6, w7] st=[] h=h 
    exact go2 m rfl _ _ _
end LOOPS

