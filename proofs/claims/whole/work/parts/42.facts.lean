/-! FACTS: whether a test holds -/
abbrev clp (x : Int) : Int := min 1000000000 (max (-1000000000) x)
/-- what a step of the class that joins two figures makes -/
def jx (e a b : Int) : Int := if e = -8 then clp (a + b) else if e = -9 then clp (a - b) else if e = -10 then clp (a * b) else if e = -11 then (if a < b then 1 else 0) else if e = -12 then (if b < a then 1 else 0) else
  if e = -13 then (if a = b then 1 else 0) else if e = -14 then (if a ≠ 0 ∧ b ≠ 0 then 1 else 0) else if a ≠ 0 ∨ b ≠ 0 then 1 else 0
def fx (s t z e : Int) : Int := if e = -6 then 1 else if e = -5 then z else if e = -4 then t else if e = -3 then t / 60 else if e = -2 then s else e
def stv (s t z c : Int) (st : List Int) : List Int :=
  if (1000 ≤ c ∧ c ≤ 10999) ∨ (4 ≤ c ∧ c ≤ 7) ∨ c = 17 then fx s t z (tcf c) :: st else
  match st with
  | b :: r => if c = 16 then (1 - b) :: r else match r with
    | a :: r' => jx (tcf c) a b :: r'
    | [] => []
  | [] => []
def stvs (s t z : Int) (f : Int → Int) : Nat → Int → List Int → List Int
  | 0, _, st => st
  | n + 1, p, st => stvs s t z f n (p + 1) (stv s t z (f p) st)
def TyV : List Bool → List Int → Prop
  | [], [] => True
  | true :: ts, v :: vs => (v = 0 ∨ v = 1) ∧ TyV ts vs
  | false :: ts, v :: vs => (-1000000000 ≤ v ∧ v ≤ 1000000000) ∧ TyV ts vs
  | _, _ => False
/-- whether sense i of book k holds for ship s at minute t, the haze being z -/
def tv (h : PH) (k s t z i : Int) : Int := if tf h k i = te h k i then 1 else (stvs s t z (cc h k) (te h k i - tf h k i).toNat (tf h k i) []).headD 0
theorem TyV.len : ∀ {ts : List Bool} {st : List Int}, TyV ts st → st.length = ts.length
  | [], [], _ => rfl
  | true :: ts, v :: vs, h => by show vs.length + 1 = ts.length + 1; rw [TyV.len h.2]
  | false :: ts, v :: vs, h => by show vs.length + 1 = ts.length + 1; rw [TyV.len h.2]
  | [], _ :: _, h => h.elim
  | true :: _, [], h => h.elim
  | false :: _, [], h => h.elim
theorem tyc_in {c : Int} {ts ts' : List Bool} (e : tyc c ts = some ts') : (((1000 ≤ c ∧ c ≤ 10999) ∨ (4 ≤ c ∧ c ≤ 7)) ∧ ts' = false :: ts) ∨ (c = 17 ∧ ts' = true :: ts) ∨ (c = 16 ∧ ∃ r, ts = true :: r ∧ ts' = true :: r) ∨
    ((c = 14 ∨ c = 15) ∧ ∃ r, ts = true :: true :: r ∧ ts' = true :: r) ∨ ((1 ≤ c ∧ c ≤ 3) ∧ ∃ r, ts = false :: false :: r ∧ ts' = false :: r) ∨ ((11 ≤ c ∧ c ≤ 13) ∧ ∃ r, ts = false :: false :: r ∧ ts' = true :: r) := by
  unfold tyc at e
  split at e
  · next g => exact Or.inl ⟨g, (Option.some.inj e).symm⟩
  split at e
  · next g => exact Or.inr (Or.inl ⟨g, (Option.some.inj e).symm⟩)
  split at e
  · next r =>
    split at e
    · next g => exact Or.inr (Or.inr (Or.inl ⟨g, r, rfl, (Option.some.inj e).symm⟩))
    split at e
    · next r' =>
      split at e
      · next g => exact Or.inr (Or.inr (Or.inr (Or.inl ⟨g, r', rfl, (Option.some.inj e).symm⟩)))
      · cases e
    · cases e
  · next r =>
    split at e
    · next r' =>
      split at e
      · next g => exact Or.inr (Or.inr (Or.inr (Or.inr (Or.inl ⟨g, r', rfl, (Option.some.inj e).symm⟩))))
      split at e
      · next g => exact Or.inr (Or.inr (Or.inr (Or.inr (Or.inr ⟨g, r', rfl, (Option.some.inj e).symm⟩))))
      · cases e
    · cases e
  · cases e
theorem ite01 {p : Prop} [Decidable p] : (if p then (1 : Int) else 0) = 0 ∨ (if p then (1 : Int) else 0) = 1 := by
  by_cases c : p
  · exact Or.inr (if_pos c)
  · exact Or.inl (if_neg c)
theorem clp_in (x : Int) : -1000000000 ≤ clp x ∧ clp x ≤ 1000000000 := by unfold clp; omega
theorem jx_ar {c : Int} (hc : 1 ≤ c ∧ c ≤ 3) (a b : Int) : -1000000000 ≤ jx (tcf c) a b ∧ jx (tcf c) a b ≤ 1000000000 := by
  rcases (show c = 1 ∨ c = 2 ∨ c = 3 by omega) with rfl | rfl | rfl
  · exact clp_in (a + b)
  · exact clp_in (a - b)
  · exact clp_in (a * b)
theorem jx_cm {c : Int} (hc : 11 ≤ c ∧ c ≤ 15) (a b : Int) : jx (tcf c) a b = 0 ∨ jx (tcf c) a b = 1 := by
  rcases (show c = 11 ∨ c = 12 ∨ c = 13 ∨ c = 14 ∨ c = 15 by omega) with rfl | rfl | rfl | rfl | rfl
  · exact ite01 (p := a < b)
  · exact ite01 (p := b < a)
  · exact ite01 (p := a = b)
  · exact ite01 (p := a ≠ 0 ∧ b ≠ 0)
  · exact ite01 (p := a ≠ 0 ∨ b ≠ 0)
theorem tcf_num {c : Int} (h : 1000 ≤ c) : tcf c = c - 1000 := by unfold tcf; rw [if_pos h]
theorem ty_step {c s t z : Int} {ts ts' : List Bool} {st : List Int} (e : tyc c ts = some ts') (T : TyV ts st) (hs : 0 ≤ s ∧ s < 10) (ht : 0 ≤ t ∧ t < 1000) (hz : 0 ≤ z ∧ z ≤ 9) : TyV ts' (stv s t z c st) := by
  rcases tyc_in e with ⟨g, rfl⟩ | ⟨g, rfl⟩ | ⟨g, r, rfl, rfl⟩ | ⟨g, r, rfl, rfl⟩ | ⟨g, r, rfl, rfl⟩ | ⟨g, r, rfl, rfl⟩
  · unfold stv
    rw [if_pos (by omega)]
    refine ⟨?_, T⟩
    rcases g with g | g
    · rw [tcf_num g.1]; unfold fx; rw [if_neg (by omega), if_neg (by omega), if_neg (by omega), if_neg (by omega), if_neg (by omega)]; omega
    · rcases (show c = 4 ∨ c = 5 ∨ c = 6 ∨ c = 7 by omega) with rfl | rfl | rfl | rfl
      · show -1000000000 ≤ s ∧ s ≤ 1000000000; omega
      · show -1000000000 ≤ t / 60 ∧ t / 60 ≤ 1000000000; omega
      · show -1000000000 ≤ t ∧ t ≤ 1000000000; omega
      · show -1000000000 ≤ z ∧ z ≤ 1000000000; omega
  · unfold stv
    rw [if_pos (by omega), g]
    exact ⟨Or.inr rfl, T⟩
  · match st, T with
    | v :: vs, T =>
      unfold stv
      rw [if_neg (by omega)]
      show TyV (true :: r) (if c = 16 then (1 - v) :: vs else _)
      rw [if_pos g]
      exact ⟨by have := T.1; omega, T.2⟩
  · match st, T with
    | v :: w :: vs, T =>
      unfold stv
      rw [if_neg (by omega)]
      show TyV (true :: r) (if c = 16 then _ else jx (tcf c) w v :: vs)
      rw [if_neg (by omega)]
      exact ⟨jx_cm (by omega) w v, T.2.2⟩
  · match st, T with
    | v :: w :: vs, T =>
      unfold stv
      rw [if_neg (by omega)]
      show TyV (false :: r) (if c = 16 then _ else jx (tcf c) w v :: vs)
      rw [if_neg (by omega)]
      exact ⟨jx_ar g w v, T.2.2⟩
  · match st, T with
    | v :: w :: vs, T =>
      unfold stv
      rw [if_neg (by omega)]
      show TyV (true :: r) (if c = 16 then _ else jx (tcf c) w v :: vs)
      rw [if_neg (by omega)]
      exact ⟨jx_cm (by omega) w v, T.2.2⟩
/-- the figures that wait, the top first, in the row u -/
def Pile (h : PH) (u : Int) : List Int → Prop
  | [] => True
  | x :: r => gv h u r.length = x ∧ Pile h u r
theorem Pile.of {h h' : PH} {u : Int} : ∀ {st : List Int}, Pile h u st → (∀ i, 0 ≤ i → i < (st.length : Int) → gv h' u i = gv h u i) → Pile h' u st
  | [], _, _ => trivial
  | x :: r, P, e => ⟨(e r.length (by omega) (by show (r.length : Int) < ((r.length + 1 : Nat) : Int); omega)).trans P.1, Pile.of P.2 (fun i i0 i1 => e i i0 (by show i < ((r.length + 1 : Nat) : Int); omega))⟩
theorem Pile.push {h : PH} {u v : Int} {st : List Int} (P : Pile h u st) : Pile (sv h u st.length v) u (v :: st) := ⟨sv_eq _ _ _ _, P.of (fun i _ i1 => sv_nf (by omega))⟩
theorem prod_in {a b M : Int} (a0 : -M ≤ a ∧ a ≤ M) (b0 : -M ≤ b ∧ b ≤ M) : -(M * M) ≤ a * b ∧ a * b ≤ M * M := by
  have h1 : a.natAbs * b.natAbs ≤ M.natAbs * M.natAbs := Nat.mul_le_mul (by omega) (by omega)
  have h2 : (a * b).natAbs = a.natAbs * b.natAbs := Int.natAbs_mul a b
  have h3 : (M * M).natAbs = M.natAbs * M.natAbs := Int.natAbs_mul M M
  have h4 : 0 ≤ M * M := Int.mul_nonneg (by omega) (by omega)
  omega
abbrev figs (v : Int) : Prop := -1000000000 ≤ v ∧ v ≤ 1000000000
theorem x_joined {d : Nat} {h : PH} {q : PQ} (_S : Shape h) (e a b : Int) (ha : -1000000000 ≤ a ∧ a ≤ 1000000000) (hb : -1000000000 ≤ b ∧ b ≤ 1000000000) (K : q (some (.inl (jx e a b))) h) :
    Wp (d + 1) 0 0 M_X3_joined 0 [some (.inl e), some (.inr (.inl a)), none, some (.inr (.inl b)), none] [] h q := by
  have pi := prod_in ha hb
  unfold jx at K
  refine p_iload 1 rfl rfl rfl ?_
  refine p_swt rfl ?_
  refine ⟨fun c1 => ?_, fun c1 => ?_⟩
  · show Wp (d + 1) 0 0 M_X3_joined 131 [some (.inl e), some (.inr (.inl a)), none, some (.inr (.inl b)), none] [] h _
    refine p_lload 132 rfl rfl rfl ?_
    refine p_lconst 133 rfl rfl ?_
    refine p_lc_eq 134 137 147 rfl rfl rfl rfl rfl (fun c2 => ?_) (fun c2 => ?_)
    · skip
      refine p_const 148 rfl rfl ?_
      refine p_iret rfl rfl ?_
      -- leaf 1: answer [.inl 0] h=h 
      (repeat' split at K) <;> first | (exfalso; omega) | exact K
    · skip
      refine p_lload 138 rfl rfl rfl ?_
      refine p_lconst 139 rfl rfl ?_
      refine p_lc_eq 140 143 147 rfl rfl rfl rfl rfl (fun c3 => ?_) (fun c3 => ?_)
      · skip
        refine p_const 148 rfl rfl ?_
        refine p_iret rfl rfl ?_
        -- leaf 2: answer [.inl 0] h=h 
        (repeat' split at K) <;> first | (exfalso; omega) | exact K
      · skip
        refine p_const 144 rfl rfl ?_
        refine p_goto 148 rfl rfl ?_
        refine p_iret rfl rfl ?_
        -- leaf 3: answer [.inl 1] h=h 
        (repeat' split at K) <;> first | (exfalso; omega) | exact K
  · have c1_0 := c1
    refine ⟨fun c1 => ?_, fun c1 => ?_⟩
    · show Wp (d + 1) 0 0 M_X3_joined 119 [some (.inl e), some (.inr (.inl a)), none, some (.inr (.inl b)), none] [] h _
      refine p_lload 120 rfl rfl rfl ?_
      refine p_lload 121 rfl rfl rfl ?_
      refine p_lc_ne 122 125 129 rfl rfl rfl rfl rfl (fun c4 => ?_) (fun c4 => ?_)
      · skip
        refine p_const 130 rfl rfl ?_
        refine p_iret rfl rfl ?_
        -- leaf 4: answer [.inl 0] h=h 
        (repeat' split at K) <;> first | (exfalso; omega) | exact K
      · skip
        refine p_const 126 rfl rfl ?_
        refine p_goto 130 rfl rfl ?_
        refine p_iret rfl rfl ?_
        -- leaf 5: answer [.inl 1] h=h 
        (repeat' split at K) <;> first | (exfalso; omega) | exact K
    · have c1_1 := c1
      refine ⟨fun c1 => ?_, fun c1 => ?_⟩
      · show Wp (d + 1) 0 0 M_X3_joined 107 [some (.inl e), some (.inr (.inl a)), none, some (.inr (.inl b)), none] [] h _
        refine p_lload 108 rfl rfl rfl ?_
        refine p_lload 109 rfl rfl rfl ?_
        refine p_lc_le 110 113 117 rfl rfl rfl rfl rfl (fun c5 => ?_) (fun c5 => ?_)
        · skip
          refine p_const 118 rfl rfl ?_
          refine p_iret rfl rfl ?_
          -- leaf 6: answer [.inl 0] h=h 
          (repeat' split at K) <;> first | (exfalso; omega) | exact K
        · skip
          refine p_const 114 rfl rfl ?_
          refine p_goto 118 rfl rfl ?_
          refine p_iret rfl rfl ?_
          -- leaf 7: answer [.inl 1] h=h 
          (repeat' split at K) <;> first | (exfalso; omega) | exact K
      · have c1_2 := c1
        refine ⟨fun c1 => ?_, fun c1 => ?_⟩
        · show Wp (d + 1) 0 0 M_X3_joined 95 [some (.inl e), some (.inr (.inl a)), none, some (.inr (.inl b)), none] [] h _
          refine p_lload 96 rfl rfl rfl ?_
          refine p_lload 97 rfl rfl rfl ?_
          refine p_lc_ge 98 101 105 rfl rfl rfl rfl rfl (fun c6 => ?_) (fun c6 => ?_)
          · skip
            refine p_const 106 rfl rfl ?_
            refine p_iret rfl rfl ?_
            -- leaf 8: answer [.inl 0] h=h 
            (repeat' split at K) <;> first | (exfalso; omega) | exact K
          · skip
            refine p_const 102 rfl rfl ?_
            refine p_goto 106 rfl rfl ?_
            refine p_iret rfl rfl ?_
            -- leaf 9: answer [.inl 1] h=h 
            (repeat' split at K) <;> first | (exfalso; omega) | exact K
        · have c1_3 := c1
          refine ⟨fun c1 => ?_, fun c1 => ?_⟩
          · show Wp (d + 1) 0 0 M_X3_joined 78 [some (.inl e), some (.inr (.inl a)), none, some (.inr (.inl b)), none] [] h _
            refine p_lconst 81 rfl rfl ?_
            refine p_lconst 84 rfl rfl ?_
            refine p_lload 85 rfl rfl rfl ?_
            refine p_lload 86 rfl rfl rfl ?_
            refine p_lmul (z := a * b) 87 rfl rfl (w64_id ⟨(by omega), (by omega)⟩) ?_
            refine p_maxl (z := max (-1000000000) (a * b)) 90 rfl rfl (Nat.succ_pos _) (Nat.le_of_ble_eq_true rfl) rfl ?_
            refine p_minl (z := min 1000000000 (max (-1000000000) (a * b))) 93 rfl rfl (Nat.succ_pos _) (Nat.le_of_ble_eq_true rfl) rfl ?_
            refine p_l2i (z := min 1000000000 (max (-1000000000) (a * b))) 94 rfl rfl (w32_id ⟨(by omega), (by omega)⟩) ?_
            refine p_iret rfl rfl ?_
            -- leaf 10: answer [.inl (min 1000000000 (max (-1000000000) (a * b)))] h=h 
            (repeat' split at K) <;> first | (exfalso; omega) | exact K
          · have c1_4 := c1
            refine ⟨fun c1 => ?_, fun c1 => ?_⟩
            · show Wp (d + 1) 0 0 M_X3_joined 61 [some (.inl e), some (.inr (.inl a)), none, some (.inr (.inl b)), none] [] h _
              refine p_lconst 64 rfl rfl ?_
              refine p_lconst 67 rfl rfl ?_
              refine p_lload 68 rfl rfl rfl ?_
              refine p_lload 69 rfl rfl rfl ?_
              refine p_lsub (z := a - b) 70 rfl rfl (w64_id ⟨(by omega), (by omega)⟩) ?_
              refine p_maxl (z := max (-1000000000) (a - b)) 73 rfl rfl (Nat.succ_pos _) (Nat.le_of_ble_eq_true rfl) rfl ?_
              refine p_minl (z := min 1000000000 (max (-1000000000) (a - b))) 76 rfl rfl (Nat.succ_pos _) (Nat.le_of_ble_eq_true rfl) rfl ?_
              refine p_l2i (z := min 1000000000 (max (-1000000000) (a - b))) 77 rfl rfl (w32_id ⟨(by omega), (by omega)⟩) ?_
              refine p_iret rfl rfl ?_
              -- leaf 11: answer [.inl (min 1000000000 (max (-1000000000) (a - b)))] h=h 
              (repeat' split at K) <;> first | (exfalso; omega) | exact K
            · have c1_5 := c1
              refine ⟨fun c1 => ?_, fun c1 => ?_⟩
              · show Wp (d + 1) 0 0 M_X3_joined 44 [some (.inl e), some (.inr (.inl a)), none, some (.inr (.inl b)), none] [] h _
                refine p_lconst 47 rfl rfl ?_
                refine p_lconst 50 rfl rfl ?_
                refine p_lload 51 rfl rfl rfl ?_
                refine p_lload 52 rfl rfl rfl ?_
                refine p_ladd (z := a + b) 53 rfl rfl (w64_id ⟨(by omega), (by omega)⟩) ?_
                refine p_maxl (z := max (-1000000000) (a + b)) 56 rfl rfl (Nat.succ_pos _) (Nat.le_of_ble_eq_true rfl) rfl ?_
                refine p_minl (z := min 1000000000 (max (-1000000000) (a + b))) 59 rfl rfl (Nat.succ_pos _) (Nat.le_of_ble_eq_true rfl) rfl ?_
                refine p_l2i (z := min 1000000000 (max (-1000000000) (a + b))) 60 rfl rfl (w32_id ⟨(by omega), (by omega)⟩) ?_
                refine p_iret rfl rfl ?_
                -- leaf 12: answer [.inl (min 1000000000 (max (-1000000000) (a + b)))] h=h 
                (repeat' split at K) <;> first | (exfalso; omega) | exact K
              · have c1_6 := c1
                show Wp (d + 1) 0 0 M_X3_joined 149 [some (.inl e), some (.inr (.inl a)), none, some (.inr (.inl b)), none] [] h _
                refine p_lload 150 rfl rfl rfl ?_
                refine p_lconst 151 rfl rfl ?_
                refine p_lc_ne 152 155 161 rfl rfl rfl rfl rfl (fun c7 => ?_) (fun c7 => ?_)
                · skip
                  refine p_const 162 rfl rfl ?_
                  refine p_goto 166 rfl rfl ?_
                  refine p_iret rfl rfl ?_
                  -- leaf 13: answer [.inl 1] h=h 
                  (repeat' split at K) <;> first | (exfalso; omega) | exact K
                · skip
                  refine p_lload 156 rfl rfl rfl ?_
                  refine p_lconst 157 rfl rfl ?_
                  refine p_lc_eq 158 161 165 rfl rfl rfl rfl rfl (fun c8 => ?_) (fun c8 => ?_)
                  · skip
                    refine p_const 166 rfl rfl ?_
                    refine p_iret rfl rfl ?_
                    -- leaf 14: answer [.inl 0] h=h 
                    (repeat' split at K) <;> first | (exfalso; omega) | exact K
                  · skip
                    refine p_const 162 rfl rfl ?_
                    refine p_goto 166 rfl rfl ?_
                    refine p_iret rfl rfl ?_
                    -- leaf 15: answer [.inl 1] h=h 
                    (repeat' split at K) <;> first | (exfalso; omega) | exact K
theorem x_figure {d : Nat} {h : PH} {q : PQ} (S : Shape h) (e : Int) (t0 : 0 ≤ gv h 30 2) (t1 : gv h 30 2 < 2147483648) (K : q (some (.inl (fx (gv h 30 1) (gv h 30 2) (gv h 30 3) e))) h) :
    Wp (d + 1) 0 0 M_X3_figure 0 [some (.inr (.inr 30)), some (.inl e)] [] h q := by
  unfold fx at K
  refine p_iload 1 rfl rfl rfl ?_
  refine p_swt rfl ?_
  refine ⟨fun c1 => ?_, fun c1 => ?_⟩
  · show Wp (d + 1) 0 0 M_X3_figure 59 [some (.inr (.inr 30)), some (.inl e)] [] h _
    refine p_const 60 rfl rfl ?_
    refine p_iret rfl rfl ?_
    -- leaf 1: answer [.inl 1] h=h 
    (repeat' split at K) <;> first | (exfalso; omega) | exact K
  · have c1_0 := c1
    refine ⟨fun c1 => ?_, fun c1 => ?_⟩
    · show Wp (d + 1) 0 0 M_X3_figure 54 [some (.inr (.inr 30)), some (.inl e)] [] h _
      refine p_aload 55 rfl rfl rfl ?_
      refine p_getfi (j := 3) (z := gv h 30 3) 58 rfl rfl rfl (tg_30 S) rfl rfl ?_
      refine p_iret rfl rfl ?_
      -- leaf 2: answer [.inl (gv h 30 3)] h=h 
      (repeat' split at K) <;> first | (exfalso; omega) | exact K
    · have c1_1 := c1
      refine ⟨fun c1 => ?_, fun c1 => ?_⟩
      · show Wp (d + 1) 0 0 M_X3_figure 49 [some (.inr (.inr 30)), some (.inl e)] [] h _
        refine p_aload 50 rfl rfl rfl ?_
        refine p_getfi (j := 2) (z := gv h 30 2) 53 rfl rfl rfl (tg_30 S) rfl rfl ?_
        refine p_iret rfl rfl ?_
        -- leaf 3: answer [.inl (gv h 30 2)] h=h 
        (repeat' split at K) <;> first | (exfalso; omega) | exact K
      · have c1_2 := c1
        refine ⟨fun c1 => ?_, fun c1 => ?_⟩
        · show Wp (d + 1) 0 0 M_X3_figure 41 [some (.inr (.inr 30)), some (.inl e)] [] h _
          refine p_aload 42 rfl rfl rfl ?_
          refine p_getfi (j := 2) (z := gv h 30 2) 45 rfl rfl rfl (tg_30 S) rfl rfl ?_
          refine p_const 47 rfl rfl ?_
          refine p_idiv (z := (gv h 30 2) / 60) 48 rfl rfl (by decide) (dv32_id (by omega) (by omega) (by omega)) ?_
          refine p_iret rfl rfl ?_
          -- leaf 4: answer [.inl ((gv h 30 2) / 60)] h=h 
          (repeat' split at K) <;> first | (exfalso; omega) | exact K
        · have c1_3 := c1
          refine ⟨fun c1 => ?_, fun c1 => ?_⟩
          · show Wp (d + 1) 0 0 M_X3_figure 36 [some (.inr (.inr 30)), some (.inl e)] [] h _
            refine p_aload 37 rfl rfl rfl ?_
            refine p_getfi (j := 1) (z := gv h 30 1) 40 rfl rfl rfl (tg_30 S) rfl rfl ?_
            refine p_iret rfl rfl ?_
            -- leaf 5: answer [.inl (gv h 30 1)] h=h 
            (repeat' split at K) <;> first | (exfalso; omega) | exact K
          · have c1_4 := c1
            show Wp (d + 1) 0 0 M_X3_figure 61 [some (.inr (.inr 30)), some (.inl e)] [] h _
            refine p_iload 62 rfl rfl rfl ?_
            refine p_iret rfl rfl ?_
            -- leaf 6: answer [.inl e] h=h 
            (repeat' split at K) <;> first | (exfalso; omega) | exact K
def fA (a _i : Int) : Bool := decide (a = 31)
theorem fA_b : ∀ a i, (128 : Int) ≤ a → fA a i = false := fun a i h => decide_eq_false (by omega)
theorem tcf_fig {c : Int} (h : ((1000 ≤ c ∧ c ≤ 10999) ∨ (4 ≤ c ∧ c ≤ 7)) ∨ c = 17) : -7 < tcf c := by
  rcases h with (h | h) | h
  · rw [tcf_num h.1]; omega
  · rcases (show c = 4 ∨ c = 5 ∨ c = 6 ∨ c = 7 by omega) with rfl | rfl | rfl | rfl <;> decide
  · subst h; decide
theorem tcf_not {c : Int} (h : c = 16) : tcf c = -7 := by subst h; rfl
theorem tcf_join {c : Int} (h : (1 ≤ c ∧ c ≤ 3) ∨ (11 ≤ c ∧ c ≤ 15)) : tcf c ≤ -8 := by
  rcases (show c = 1 ∨ c = 2 ∨ c = 3 ∨ c = 11 ∨ c = 12 ∨ c = 13 ∨ c = 14 ∨ c = 15 by omega) with rfl | rfl | rfl | rfl | rfl | rfl | rfl | rfl <;> decide
theorem stv_fig {s t z c : Int} {st : List Int} (g : ((1000 ≤ c ∧ c ≤ 10999) ∨ (4 ≤ c ∧ c ≤ 7)) ∨ c = 17) : stv s t z c st = fx s t z (tcf c) :: st := by unfold stv; rw [if_pos (by omega)]
theorem stv_not {s t z b : Int} {st : List Int} : stv s t z 16 (b :: st) = (1 - b) :: st := rfl
theorem stv_join {s t z c a b : Int} {st : List Int} (g : (1 ≤ c ∧ c ≤ 3) ∨ (11 ≤ c ∧ c ≤ 15)) : stv s t z c (b :: a :: st) = jx (tcf c) a b :: st := by
  unfold stv
  rw [if_neg (by omega)]
  show (if c = 16 then _ else _) = _
  rw [if_neg (by omega)]
theorem TyV.figs2 {x y : Bool} {r : List Bool} {v w : Int} {vs : List Int} (T : TyV (x :: y :: r) (v :: w :: vs)) : figs v ∧ figs w := by
  cases x <;> cases y <;> (have := T.1; have := T.2.1; constructor <;> unfold figs <;> omega)
theorem TyV.figs : ∀ {ts : List Bool} {st : List Int} {h : PH} {u : Int}, TyV ts st → Pile h u st → ∀ i, 0 ≤ i → i < (st.length : Int) → -1000000000 ≤ gv h u i ∧ gv h u i ≤ 1000000000
  | [], [], _, _, _, _, i, i0, i1 => by exfalso; have i1 : i < (0 : Int) := i1; omega
  | true :: ts, v :: vs, h, u, T, P, i, i0, i1 => by
    have i1 : i < ((vs.length + 1 : Nat) : Int) := i1
    by_cases z : i = vs.length
    · rw [z, P.1]; have := T.1; omega
    · exact TyV.figs T.2 P.2 i i0 (by omega)
  | false :: ts, v :: vs, h, u, T, P, i, i0, i1 => by
    have i1 : i < ((vs.length + 1 : Nat) : Int) := i1
    by_cases z : i = vs.length
    · rw [z, P.1]; exact T.1
    · exact TyV.figs T.2 P.2 i i0 (by omega)
  | [], _ :: _, _, _, T, _, _, _, _ => T.elim
  | true :: _, [], _, _, T, _, _, _, _ => T.elim
  | false :: _, [], _, _, T, _, _, _, _ => T.elim
theorem x_test_loop {d : Nat} {h : PH} {q : PQ} {a n pl : Int} (B : BkS h a n pl) (k s t z i fr to : Int) (hs : 0 ≤ s ∧ s < 10) (ht : 0 ≤ t ∧ t < 1000) (hz : 0 ≤ z ∧ z ≤ 9) (V : Int)
    (to0 : 0 ≤ fr) (to1 : to ≤ pl) (to2 : pl ≤ 700) (pr : ∀ p, fr ≤ p → p < to → gv h (a + 4) p = tcf (cc h k p)) (f1 : gv h 30 1 = s) (f2 : gv h 30 2 = t) (f3 : gv h 30 3 = z)
    (K : ∀ h', Keep fA h h' → Shape h' → q (some (.inl V)) h') :
    ∀ (c : Nat) (p hh : Int) (ts : List Bool) (st : List Int) (w : Option PV) (h1 : PH), p + c = to → fr ≤ p → Shape h1 → Keep fA h h1 → tyr (cc h k) c p ts = some [true] → ts.length ≤ 63 → TyV ts st → Pile h1 31 st → (stvs s t z (cc h k) c p st).headD 0 = V → hh = st.length →
      Wp (d + 2) 0 0 M_X3_testHolds 36 [some (.inr (.inr 30)), some (.inr (.inr a)), some (.inl i), some (.inl fr), some (.inl to), some (.inl hh), some (.inl p), w] [] h1 q := by
  intro c
  induction c with
  | zero =>
    intro p hh ts st w h1 hp hf S kp ty tl T P hV he
    have ty : ts = [true] := Option.some.inj ty
    subst ty
    match st, T with
    | [v], T =>
      have hv := T.1
      have P1 : gv h1 31 0 = v := P.1
      have hV : v = V := hV
      have he : hh = 1 := he
      refine p_iload 38 rfl rfl rfl ?_
      refine p_iload 40 rfl rfl rfl ?_
      refine p_ic_ge_t 188 rfl rfl (by omega) ?_
      refine p_iload 190 rfl rfl rfl ?_
      refine p_if_eq_f 193 rfl rfl (by omega) ?_
      refine p_aload 194 rfl rfl rfl ?_
      refine p_getfr (j := 0) (z := 31) 197 rfl rfl rfl (tg_30 S) rfl (fi_30_0 S) ?_
      refine p_const 198 rfl rfl ?_
      refine p_iald (w := 64) (z := gv h1 31 0) 199 rfl rfl (tg_31 S) (ln_31 S) (by decide) (by decide) rfl ?_
      refine p_if_eq 202 206 rfl rfl rfl (fun c1 => ?_) (fun c1 => ?_)
      · skip
        refine p_const 207 rfl rfl ?_
        refine p_zret rfl rfl (by decide) ?_
        -- leaf 1: answer [.inl 0] h=h1  kp
        rw [show (0 : Int) = V by omega]; exact K h1 kp S
      · skip
        refine p_const 203 rfl rfl ?_
        refine p_goto 207 rfl rfl ?_
        refine p_zret rfl rfl (by decide) ?_
        -- leaf 2: answer [.inl 1] h=h1  kp
        rw [show (1 : Int) = V by omega]; exact K h1 kp S
  | succ c ih =>
    intro p hh ts st w h1 hp hf S kp ty tl T P hV he
    have hpr := pr p hf (by omega)
    have sl := T.len
    have hfig := fun i i0 i1 => T.figs P i i0 i1
    have g1 : 0 ≤ gv h1 30 2 ∧ gv h1 30 2 < 1000 := by rw [kp.1 30 2 rfl]; omega
    have fe : fx s t z (tcf (cc h k p)) = fx (gv h1 30 1) (gv h1 30 2) (gv h1 30 3) (tcf (cc h k p)) := by rw [kp.1 30 1 rfl, kp.1 30 2 rfl, kp.1 30 3 rfl, f1, f2, f3]
    unfold tyr at ty
    cases hc : tyc (cc h k p) ts with
    | none => rw [hc] at ty; cases ty
    | some ts' =>
      rw [hc] at ty
      replace ty : (if ts'.length ≤ 63 then tyr (cc h k) c (p + 1) ts' else none) = some [true] := ty
      by_cases l63 : ts'.length ≤ 63
      · rw [if_pos l63] at ty
        have T' := ty_step hc T hs ht hz
        replace hV : (stvs s t z (cc h k) c (p + 1) (stv s t z (cc h k p) st)).headD 0 = V := hV
        have nx : ∀ (y : List Int) (hh : Int) (w' : Option PV) (h2 : PH), stv s t z (cc h k p) st = y → hh = y.length → Shape h2 → Keep fA h h2 → Pile h2 31 y →
            Wp (d + 2) 0 0 M_X3_testHolds 36 [some (.inr (.inr 30)), some (.inr (.inr a)), some (.inl i), some (.inl fr), some (.inl to), some (.inl hh), some (.inl (p + 1)), w'] [] h2 q := by
          intro y hh w' h2 hy hl S2 k2 P2
          rw [hy] at T' hV
          exact ih (p + 1) hh ts' y w' h2 (by omega) (by omega) S2 k2 ty l63 T' P2 hV hl
        have cs : (-7 < tcf (cc h k p) ∧ (((1000 ≤ cc h k p ∧ cc h k p ≤ 10999) ∨ (4 ≤ cc h k p ∧ cc h k p ≤ 7)) ∨ cc h k p = 17) ∧ st.length ≤ 62) ∨ (tcf (cc h k p) = -7 ∧ cc h k p = 16 ∧ ∃ v vs, st = v :: vs) ∨ (tcf (cc h k p) ≤ -8 ∧ ((1 ≤ cc h k p ∧ cc h k p ≤ 3) ∨ (11 ≤ cc h k p ∧ cc h k p ≤ 15)) ∧ ∃ v u vs, st = v :: u :: vs) := by
          rcases tyc_in hc with ⟨g, e⟩ | ⟨g, e⟩ | ⟨g, r, e, _⟩ | ⟨g, r, e, _⟩ | ⟨g, r, e, _⟩ | ⟨g, r, e, _⟩
          · refine Or.inl ⟨tcf_fig (Or.inl g), Or.inl g, ?_⟩
            rw [e] at l63; have l63 : ts.length + 1 ≤ 63 := l63; omega
          · refine Or.inl ⟨tcf_fig (Or.inr g), Or.inr g, ?_⟩
            rw [e] at l63; have l63 : ts.length + 1 ≤ 63 := l63; omega
          · refine Or.inr (Or.inl ⟨tcf_not g, g, ?_⟩)
            subst e
            match st, T with
            | v :: vs, _ => exact ⟨v, vs, rfl⟩
          all_goals
            refine Or.inr (Or.inr ⟨tcf_join (by omega), by omega, ?_⟩)
            subst e
            match st, T with
            | v :: u :: vs, _ => exact ⟨v, u, vs, rfl⟩
        have ln1 : tcf (cc h k p) = -7 → 1 ≤ hh := by
          intro z
          rcases cs with ⟨g, _⟩ | ⟨_, _, v, vs, e⟩ | ⟨g, _⟩
          · omega
          · rw [he, e]; show (1 : Int) ≤ ((vs.length + 1 : Nat) : Int); omega
          · omega
        have ln2 : tcf (cc h k p) ≤ -8 → 2 ≤ hh := by
          intro z
          rcases cs with ⟨g, _⟩ | ⟨g, _⟩ | ⟨_, _, v, u, vs, e⟩
          · omega
          · omega
          · rw [he, e]; show (2 : Int) ≤ ((vs.length + 1 + 1 : Nat) : Int); omega
        have ln3 : -7 < tcf (cc h k p) → hh < 63 := by
          intro z
          rcases cs with ⟨_, _, g⟩ | ⟨g, _⟩ | ⟨g, _⟩ <;> omega
        have hd1 : 1 ≤ hh → -1000000000 ≤ gv h1 31 (hh - 1) ∧ gv h1 31 (hh - 1) ≤ 1000000000 := fun z => hfig _ (by omega) (by omega)
        rcases cs with ⟨g1, g2, g3⟩ | ⟨g1, g2, v, vs, rfl⟩ | ⟨g1, g2, v, u, vs, rfl⟩
        · have g0 : gv h (a + 4) p > -7 := by omega
          refine p_iload 38 rfl rfl rfl ?_
          refine p_iload 40 rfl rfl rfl ?_
          refine p_ic_ge_f 43 rfl rfl (by omega) ?_
          refine p_iload 45 rfl rfl rfl ?_
          refine p_aload 46 rfl rfl rfl ?_
          refine p_getfr (j := 6) (z := a + 4) 49 rfl rfl rfl (B.kp kp fA_b).tag rfl (B.kp kp fA_b).f6 ?_
          refine p_alen (w := pl) 50 rfl rfl (by rw [((B.kp kp fA_b).t4)]; decide) ((B.kp kp fA_b).l4) ?_
          refine p_ic_ge_f 53 rfl rfl (by omega) ?_
          refine p_aload 54 rfl rfl rfl ?_
          refine p_getfr (j := 6) (z := a + 4) 57 rfl rfl rfl (B.kp kp fA_b).tag rfl (B.kp kp fA_b).f6 ?_
          refine p_iload 59 rfl rfl rfl ?_
          refine p_iald (w := pl) (z := gv h (a + 4) p) 60 rfl rfl ((B.kp kp fA_b).t4) ((B.kp kp fA_b).l4) (by omega) (by omega) (kp.1 _ _ (fA_b _ _ (by have := B.ge; omega))) ?_
          refine p_istore (ls' := [some (.inr (.inr 30)), some (.inr (.inr a)), some (.inl i), some (.inl fr), some (.inl to), some (.inl hh), some (.inl p), some (.inl (gv h (a + 4) p))]) 62 rfl rfl (Nat.le_of_ble_eq_true rfl) rfl ?_
          refine p_iload 64 rfl rfl rfl ?_
          refine p_const 66 rfl rfl ?_
          refine p_ic_ne_t 98 rfl rfl (by omega) ?_
          refine p_iload 100 rfl rfl rfl ?_
          refine p_const 102 rfl rfl ?_
          refine p_ic_gt_t 149 rfl rfl (by omega) ?_
          refine p_iload 151 rfl rfl rfl ?_
          refine p_const 153 rfl rfl ?_
          refine p_ic_le_f 156 rfl rfl (by omega) ?_
          refine p_iload 158 rfl rfl rfl ?_
          refine p_aload 159 rfl rfl rfl ?_
          refine p_getfr (j := 0) (z := 31) 162 rfl rfl rfl (tg_30 S) rfl (fi_30_0 S) ?_
          refine p_alen (w := 64) 163 rfl rfl (by rw [(tg_31 S)]; decide) (ln_31 S) ?_
          refine p_ic_ge_f 166 rfl rfl (by omega) ?_
          refine p_aload 167 rfl rfl rfl ?_
          refine p_getfr (j := 0) (z := 31) 170 rfl rfl rfl (tg_30 S) rfl (fi_30_0 S) ?_
          refine p_iload 172 rfl rfl rfl ?_
          refine p_aload 173 rfl rfl rfl ?_
          refine p_iload 175 rfl rfl rfl ?_
          refine p_callv (le := [some (.inr (.inr 30)), some (.inl (gv h (a + 4) p))]) (as := [.inr (.inr 30), .inl (gv h (a + 4) p)]) (rest := [.inl hh, .inr (.inr 31)]) 178 0 0 0 0 rfl rfl (Nat.le_of_ble_eq_true rfl) rfl (Nat.le_of_ble_eq_true rfl) rfl rfl (Nat.le_of_ble_eq_true rfl) rfl (Nat.le_of_ble_eq_true rfl) rfl (Nat.le_refl _) (Nat.le_refl _) rfl rfl (tg_30 S) ?_
          refine x_figure S (gv h (a + 4) p) (by omega) (by omega) ?_
          show Wp (d + 2) 0 0 M_X3_testHolds 178 [some (.inr (.inr 30)), some (.inr (.inr a)), some (.inl i), some (.inl fr), some (.inl to), some (.inl hh), some (.inl p), some (.inl (gv h (a + 4) p))] [.inl (fx (gv h1 30 1) (gv h1 30 2) (gv h1 30 3) (gv h (a + 4) p)), .inl hh, .inr (.inr 31)] h1 _
          refine p_iast (w := 64) 179 rfl rfl (by decide) (tg_31 S) (ln_31 S) (by omega) (by omega) ?_
          refine p_nmh (fun y1 e1 => ?_)
          have S1 : Shape y1 := by rw [e1]; exact S.svA fa_31 _ _
          have kp1 : Keep fA h y1 := by rw [e1]; exact kp.sv rfl _
          refine p_iinc (y := hh + 1) (ls' := [some (.inr (.inr 30)), some (.inr (.inr a)), some (.inl i), some (.inl fr), some (.inl to), some (.inl (hh + 1)), some (.inl p), some (.inl (gv h (a + 4) p))]) 182 rfl rfl rfl (w32_id ⟨(by omega), (by omega)⟩) rfl ?_
          refine p_iinc (y := p + 1) (ls' := [some (.inr (.inr 30)), some (.inr (.inr a)), some (.inl i), some (.inl fr), some (.inl to), some (.inl (hh + 1)), some (.inl (p + 1)), some (.inl (gv h (a + 4) p))]) 185 rfl rfl rfl (w32_id ⟨(by omega), (by omega)⟩) rfl ?_
          refine p_goto 36 rfl rfl ?_
          -- leaf 1: loop 36 [some (.inr (.inr 30)), some (.inr (.inr a)), some (.inl i), some (.inl fr), some (.inl to), some (.inl (hh + 1)), some (.inl (p + 1)), some (.inl (gv h (a + 4) p))] st=[] h=y1 e1 kp1
          exact nx _ (hh + 1) _ _ (stv_fig g2) (by rw [he]; rfl) (by assumption) (by assumption) (by rw [fe, ← hpr, e1, he]; exact P.push)
        · have he : hh = ((vs.length + 1 : Nat) : Int) := he
          have g0 : gv h (a + 4) p = -7 := by omega
          have hv := P.1
          refine p_iload 38 rfl rfl rfl ?_
          refine p_iload 40 rfl rfl rfl ?_
          refine p_ic_ge_f 43 rfl rfl (by omega) ?_
          refine p_iload 45 rfl rfl rfl ?_
          refine p_aload 46 rfl rfl rfl ?_
          refine p_getfr (j := 6) (z := a + 4) 49 rfl rfl rfl (B.kp kp fA_b).tag rfl (B.kp kp fA_b).f6 ?_
          refine p_alen (w := pl) 50 rfl rfl (by rw [((B.kp kp fA_b).t4)]; decide) ((B.kp kp fA_b).l4) ?_
          refine p_ic_ge_f 53 rfl rfl (by omega) ?_
          refine p_aload 54 rfl rfl rfl ?_
          refine p_getfr (j := 6) (z := a + 4) 57 rfl rfl rfl (B.kp kp fA_b).tag rfl (B.kp kp fA_b).f6 ?_
          refine p_iload 59 rfl rfl rfl ?_
          refine p_iald (w := pl) (z := gv h (a + 4) p) 60 rfl rfl ((B.kp kp fA_b).t4) ((B.kp kp fA_b).l4) (by omega) (by omega) (kp.1 _ _ (fA_b _ _ (by have := B.ge; omega))) ?_
          refine p_istore (ls' := [some (.inr (.inr 30)), some (.inr (.inr a)), some (.inl i), some (.inl fr), some (.inl to), some (.inl hh), some (.inl p), some (.inl (gv h (a + 4) p))]) 62 rfl rfl (Nat.le_of_ble_eq_true rfl) rfl ?_
          refine p_iload 64 rfl rfl rfl ?_
          refine p_const 66 rfl rfl ?_
          refine p_ic_ne_f 69 rfl rfl (by omega) ?_
          refine p_iload 71 rfl rfl rfl ?_
          refine p_const 72 rfl rfl ?_
          refine p_ic_lt_f 75 rfl rfl (by omega) ?_
          refine p_aload 76 rfl rfl rfl ?_
          refine p_getfr (j := 0) (z := 31) 79 rfl rfl rfl (tg_30 S) rfl (fi_30_0 S) ?_
          refine p_iload 81 rfl rfl rfl ?_
          refine p_const 82 rfl rfl ?_
          refine p_isub (z := hh - 1) 83 rfl rfl (w32_id ⟨(by omega), (by omega)⟩) ?_
          refine p_const 84 rfl rfl ?_
          refine p_aload 85 rfl rfl rfl ?_
          refine p_getfr (j := 0) (z := 31) 88 rfl rfl rfl (tg_30 S) rfl (fi_30_0 S) ?_
          refine p_iload 90 rfl rfl rfl ?_
          refine p_const 91 rfl rfl ?_
          refine p_isub (z := hh - 1) 92 rfl rfl (w32_id ⟨(by omega), (by omega)⟩) ?_
          refine p_iald (w := 64) (z := gv h1 31 (hh - 1)) 93 rfl rfl (tg_31 S) (ln_31 S) (by omega) (by omega) rfl ?_
          refine p_isub (z := 1 - (gv h1 31 (hh - 1))) 94 rfl rfl (w32_id ⟨(by omega), (by omega)⟩) ?_
          refine p_iast (w := 64) 95 rfl rfl (by decide) (tg_31 S) (ln_31 S) (by omega) (by omega) ?_
          refine p_nmh (fun y1 e1 => ?_)
          have S1 : Shape y1 := by rw [e1]; exact S.svA fa_31 _ _
          have kp1 : Keep fA h y1 := by rw [e1]; exact kp.sv rfl _
          refine p_goto 182 rfl rfl ?_
          refine p_iinc (y := p + 1) (ls' := [some (.inr (.inr 30)), some (.inr (.inr a)), some (.inl i), some (.inl fr), some (.inl to), some (.inl hh), some (.inl (p + 1)), some (.inl (gv h (a + 4) p))]) 185 rfl rfl rfl (w32_id ⟨(by omega), (by omega)⟩) rfl ?_
          refine p_goto 36 rfl rfl ?_
          -- leaf 1: loop 36 [some (.inr (.inr 30)), some (.inr (.inr a)), some (.inl i), some (.inl fr), some (.inl to), some (.inl hh), some (.inl (p + 1)), some (.inl (gv h (a + 4) p))] st=[] h=y1 e1 kp1
          rw [g2] at nx
          refine nx _ hh _ _ stv_not he (by assumption) (by assumption) ?_
          rw [e1, show hh - 1 = vs.length by omega, hv]
          exact (P.2).push
        · have he : hh = ((vs.length + 1 + 1 : Nat) : Int) := he
          have g0 : gv h (a + 4) p ≤ -8 := by omega
          have hv := P.1
          have hu := P.2.1
          have b1 := hfig (hh - 1) (by omega) (by show hh - 1 < ((vs.length + 1 + 1 : Nat) : Int); omega)
          have b2 := hfig (hh - 1 - 1) (by omega) (by show hh - 1 - 1 < ((vs.length + 1 + 1 : Nat) : Int); omega)
          refine p_iload 38 rfl rfl rfl ?_
          refine p_iload 40 rfl rfl rfl ?_
          refine p_ic_ge_f 43 rfl rfl (by omega) ?_
          refine p_iload 45 rfl rfl rfl ?_
          refine p_aload 46 rfl rfl rfl ?_
          refine p_getfr (j := 6) (z := a + 4) 49 rfl rfl rfl (B.kp kp fA_b).tag rfl (B.kp kp fA_b).f6 ?_
          refine p_alen (w := pl) 50 rfl rfl (by rw [((B.kp kp fA_b).t4)]; decide) ((B.kp kp fA_b).l4) ?_
          refine p_ic_ge_f 53 rfl rfl (by omega) ?_
          refine p_aload 54 rfl rfl rfl ?_
          refine p_getfr (j := 6) (z := a + 4) 57 rfl rfl rfl (B.kp kp fA_b).tag rfl (B.kp kp fA_b).f6 ?_
          refine p_iload 59 rfl rfl rfl ?_
          refine p_iald (w := pl) (z := gv h (a + 4) p) 60 rfl rfl ((B.kp kp fA_b).t4) ((B.kp kp fA_b).l4) (by omega) (by omega) (kp.1 _ _ (fA_b _ _ (by have := B.ge; omega))) ?_
          refine p_istore (ls' := [some (.inr (.inr 30)), some (.inr (.inr a)), some (.inl i), some (.inl fr), some (.inl to), some (.inl hh), some (.inl p), some (.inl (gv h (a + 4) p))]) 62 rfl rfl (Nat.le_of_ble_eq_true rfl) rfl ?_
          refine p_iload 64 rfl rfl rfl ?_
          refine p_const 66 rfl rfl ?_
          refine p_ic_ne_t 98 rfl rfl (by omega) ?_
          refine p_iload 100 rfl rfl rfl ?_
          refine p_const 102 rfl rfl ?_
          refine p_ic_gt_f 105 rfl rfl (by omega) ?_
          refine p_iload 107 rfl rfl rfl ?_
          refine p_const 108 rfl rfl ?_
          refine p_ic_lt_f 111 rfl rfl (by omega) ?_
          refine p_iinc (y := hh - 1) (ls' := [some (.inr (.inr 30)), some (.inr (.inr a)), some (.inl i), some (.inl fr), some (.inl to), some (.inl (hh - 1)), some (.inl p), some (.inl (gv h (a + 4) p))]) 114 rfl rfl rfl (wsub_id ⟨(by omega), (by omega)⟩) rfl ?_
          refine p_aload 115 rfl rfl rfl ?_
          refine p_getfr (j := 0) (z := 31) 118 rfl rfl rfl (tg_30 S) rfl (fi_30_0 S) ?_
          refine p_iload 120 rfl rfl rfl ?_
          refine p_const 121 rfl rfl ?_
          refine p_isub (z := (hh - 1) - 1) 122 rfl rfl (w32_id ⟨(by omega), (by omega)⟩) ?_
          refine p_iload 124 rfl rfl rfl ?_
          refine p_aload 125 rfl rfl rfl ?_
          refine p_getfr (j := 0) (z := 31) 128 rfl rfl rfl (tg_30 S) rfl (fi_30_0 S) ?_
          refine p_iload 130 rfl rfl rfl ?_
          refine p_const 131 rfl rfl ?_
          refine p_isub (z := (hh - 1) - 1) 132 rfl rfl (w32_id ⟨(by omega), (by omega)⟩) ?_
          refine p_iald (w := 64) (z := gv h1 31 ((hh - 1) - 1)) 133 rfl rfl (tg_31 S) (ln_31 S) (by omega) (by omega) rfl ?_
          refine p_i2l 134 rfl rfl ?_
          refine p_aload 135 rfl rfl rfl ?_
          refine p_getfr (j := 0) (z := 31) 138 rfl rfl rfl (tg_30 S) rfl (fi_30_0 S) ?_
          refine p_iload 140 rfl rfl rfl ?_
          refine p_iald (w := 64) (z := gv h1 31 (hh - 1)) 141 rfl rfl (tg_31 S) (ln_31 S) (by omega) (by omega) rfl ?_
          refine p_i2l 142 rfl rfl ?_
          refine p_calls (le := [some (.inl (gv h (a + 4) p)), some (.inr (.inl (gv h1 31 ((hh - 1) - 1)))), none, some (.inr (.inl (gv h1 31 (hh - 1)))), none]) (as := [.inl (gv h (a + 4) p), .inr (.inl (gv h1 31 ((hh - 1) - 1))), .inr (.inl (gv h1 31 (hh - 1)))]) (rest := [.inl ((hh - 1) - 1), .inr (.inr 31)]) 145 0 0 0 0 rfl rfl (Nat.le_of_ble_eq_true rfl) rfl (Nat.le_of_ble_eq_true rfl) rfl rfl (Nat.le_of_ble_eq_true rfl) rfl (Nat.le_of_ble_eq_true rfl) rfl (Nat.le_refl _) (Nat.le_refl _) rfl rfl ?_
          refine x_joined S (gv h (a + 4) p) (gv h1 31 ((hh - 1) - 1)) (gv h1 31 (hh - 1)) (by omega) (by omega) ?_
          show Wp (d + 2) 0 0 M_X3_testHolds 145 [some (.inr (.inr 30)), some (.inr (.inr a)), some (.inl i), some (.inl fr), some (.inl to), some (.inl (hh - 1)), some (.inl p), some (.inl (gv h (a + 4) p))] [.inl (jx (gv h (a + 4) p) (gv h1 31 ((hh - 1) - 1)) (gv h1 31 (hh - 1))), .inl ((hh - 1) - 1), .inr (.inr 31)] h1 _
          refine p_iast (w := 64) 146 rfl rfl (by decide) (tg_31 S) (ln_31 S) (by omega) (by omega) ?_
          refine p_nmh (fun y1 e1 => ?_)
          have S1 : Shape y1 := by rw [e1]; exact S.svA fa_31 _ _
          have kp1 : Keep fA h y1 := by rw [e1]; exact kp.sv rfl _
          refine p_goto 182 rfl rfl ?_
          refine p_iinc (y := p + 1) (ls' := [some (.inr (.inr 30)), some (.inr (.inr a)), some (.inl i), some (.inl fr), some (.inl to), some (.inl (hh - 1)), some (.inl (p + 1)), some (.inl (gv h (a + 4) p))]) 185 rfl rfl rfl (w32_id ⟨(by omega), (by omega)⟩) rfl ?_
          refine p_goto 36 rfl rfl ?_
          -- leaf 1: loop 36 [some (.inr (.inr 30)), some (.inr (.inr a)), some (.inl i), some (.inl fr), some (.inl to), some (.inl (hh - 1)), some (.inl (p + 1)), some (.inl (gv h (a + 4) p))] st=[] h=y1 e1 kp1
          refine nx _ (hh - 1) _ _ (stv_join g2) (by show hh - 1 = ((vs.length + 1 : Nat) : Int); omega) (by assumption) (by assumption) ?_
          have q1 : gv h1 31 (hh - 1) = v := by rw [show hh - 1 = ((u :: vs).length : Int) by show hh - 1 = ((vs.length + 1 : Nat) : Int); omega]; exact hv
          have q2 : gv h1 31 (hh - 1 - 1) = u := by rw [show hh - 1 - 1 = (vs.length : Int) by omega]; exact hu
          rw [e1, q1, q2, show hh - 1 - 1 = (vs.length : Int) by omega, ← hpr]
          exact (P.2.2).push
      · rw [if_neg l63] at ty; cases ty
theorem tv_01 {h : PH} {k s t z i : Int} (hs : 0 ≤ s ∧ s < 10) (ht : 0 ≤ t ∧ t < 1000) (hz : 0 ≤ z ∧ z ≤ 9) (hle : tf h k i ≤ te h k i) (ty : tf h k i < te h k i → tyr (cc h k) (te h k i - tf h k i).toNat (tf h k i) [] = some [true]) : tv h k s t z i = 0 ∨ tv h k s t z i = 1 := by
  unfold tv
  by_cases e : tf h k i = te h k i
  · rw [if_pos e]; exact Or.inr rfl
  · rw [if_neg e]
    have L : ∀ (c : Nat) (p : Int) (ts : List Bool) (st : List Int), tyr (cc h k) c p ts = some [true] → TyV ts st → (stvs s t z (cc h k) c p st).headD 0 = 0 ∨ (stvs s t z (cc h k) c p st).headD 0 = 1 := by
      intro c
      induction c with
      | zero =>
        intro p ts st ty T
        have ty : ts = [true] := Option.some.inj ty
        subst ty
        match st, T with
        | [v], T => exact T.1
      | succ c ih =>
        intro p ts st ty T
        unfold tyr at ty
        cases hc : tyc (cc h k p) ts with
        | none => rw [hc] at ty; cases ty
        | some ts' =>
          rw [hc] at ty
          replace ty : (if ts'.length ≤ 63 then tyr (cc h k) c (p + 1) ts' else none) = some [true] := ty
          by_cases l63 : ts'.length ≤ 63
          · rw [if_pos l63] at ty
            exact ih (p + 1) ts' _ ty (ty_step hc T hs ht hz)
          · rw [if_neg l63] at ty; cases ty
    exact L _ _ [] [] (ty (by omega)) trivial
theorem x_testHolds {d : Nat} {h : PH} {q : PQ} (S : Shape h) (a i : Int) {n pl k s t z : Int} (B : BkS h a n pl) (hn : n ≤ 40) (I : BkI h a k pl i) (i0 : 0 ≤ i) (i1 : i < n) (to2 : pl ≤ 700) (hs : 0 ≤ s ∧ s < 10) (ht : 0 ≤ t ∧ t < 1000) (hz : 0 ≤ z ∧ z ≤ 9)
    (f1 : gv h 30 1 = s) (f2 : gv h 30 2 = t) (f3 : gv h 30 3 = z) (ip : 0 < i → gv h (a + 3) (i - 1) = te h k (i - 1)) (K : ∀ r h', (Keep fA h h' ∧ r = tv h k s t z i) → Shape h' → q (some (.inl r)) h') :
    Wp (d + 2) 0 0 M_X3_testHolds 0 [some (.inr (.inr 30)), some (.inr (.inr a)), some (.inl i), none, none, none, none, none] [] h q := by
  obtain ⟨⟨j1, j1'⟩, ⟨j2, j2'⟩, j3, j4, j5, j6, ⟨j7, j8, j9⟩, j10, j11⟩ := I
  have f0 := B.f0
  have go : ∀ fr, fr = tf h k i → Wp (d + 2) 0 0 M_X3_testHolds 36 [some (.inr (.inr 30)), some (.inr (.inr a)), some (.inl i), some (.inl fr), some (.inl (te h k i)), some (.inl 0), some (.inl fr), none] [] h q := by
    intro fr hfr
    subst hfr
    by_cases e : tf h k i = te h k i
    · skip
      refine p_iload 38 rfl rfl rfl ?_
      refine p_iload 40 rfl rfl rfl ?_
      refine p_ic_ge_t 188 rfl rfl (by omega) ?_
      refine p_iload 190 rfl rfl rfl ?_
      refine p_if_eq_t 202 rfl rfl (by decide) ?_
      refine p_const 203 rfl rfl ?_
      refine p_goto 207 rfl rfl ?_
      refine p_zret rfl rfl (by decide) ?_
      -- leaf 1: answer [.inl 1] h=h 
      refine K 1 h ⟨Keep.rf _ _, ?_⟩ S
      unfold tv; rw [if_pos e]
    · refine x_test_loop B k s t z i _ _ hs ht hz (tv h k s t z i) j7 j9 to2 (fun p p0 p1 => j11 p p0 p1) f1 f2 f3 (fun h' k' S' => K _ h' ⟨k', rfl⟩ S') (te h k i - tf h k i).toNat _ 0 [] [] none h (by omega) (Int.le_refl _) S (Keep.rf _ _) (j10 (by omega)) (by decide) trivial trivial ?_ rfl
      unfold tv; rw [if_neg e]
  by_cases iz : i = 0
  · rw [if_pos iz] at j6
    refine p_aload 1 rfl rfl rfl ?_
    refine p_iload 2 rfl rfl rfl ?_
    refine p_callv (le := [some (.inr (.inr a)), some (.inl i)]) (as := [.inr (.inr a), .inl i]) (rest := []) 5 0 0 0 0 rfl rfl (Nat.le_of_ble_eq_true rfl) rfl (Nat.le_of_ble_eq_true rfl) rfl rfl (Nat.le_of_ble_eq_true rfl) rfl (Nat.le_of_ble_eq_true rfl) rfl (Nat.le_refl _) (Nat.le_refl _) rfl rfl B.tag ?_
    refine p_iload 1 rfl rfl rfl ?_
    refine p_if_le_t 23 rfl rfl (by omega) ?_
    refine p_const 24 rfl rfl ?_
    refine p_iret rfl rfl ?_
    show Wp (d + 2) 0 0 M_X3_testHolds 5 [some (.inr (.inr 30)), some (.inr (.inr a)), some (.inl i), none, none, none, none, none] [.inl 0] h _
    refine p_istore (ls' := [some (.inr (.inr 30)), some (.inr (.inr a)), some (.inl i), some (.inl 0), none, none, none, none]) 6 rfl rfl (Nat.le_of_ble_eq_true rfl) rfl ?_
    refine p_iload 7 rfl rfl rfl ?_
    refine p_if_lt_f 10 rfl rfl (by omega) ?_
    refine p_iload 11 rfl rfl rfl ?_
    refine p_aload 12 rfl rfl rfl ?_
    refine p_getfi (j := 0) (z := gv h a 0) 15 rfl rfl rfl B.tag rfl rfl ?_
    refine p_ic_ge_f 18 rfl rfl (by omega) ?_
    refine p_aload 19 rfl rfl rfl ?_
    refine p_getfr (j := 5) (z := a + 3) 22 rfl rfl rfl B.tag rfl B.f5 ?_
    refine p_iload 23 rfl rfl rfl ?_
    refine p_iald (w := n) (z := gv h (a + 3) i) 24 rfl rfl (B.t3) (B.l3) (by omega) (by omega) rfl ?_
    refine p_goto 28 rfl rfl ?_
    refine p_istore (ls' := [some (.inr (.inr 30)), some (.inr (.inr a)), some (.inl i), some (.inl 0), some (.inl (gv h (a + 3) i)), none, none, none]) 30 rfl rfl (Nat.le_of_ble_eq_true rfl) rfl ?_
    refine p_const 31 rfl rfl ?_
    refine p_istore (ls' := [some (.inr (.inr 30)), some (.inr (.inr a)), some (.inl i), some (.inl 0), some (.inl (gv h (a + 3) i)), some (.inl 0), none, none]) 33 rfl rfl (Nat.le_of_ble_eq_true rfl) rfl ?_
    refine p_iload 34 rfl rfl rfl ?_
    refine p_istore (ls' := [some (.inr (.inr 30)), some (.inr (.inr a)), some (.inl i), some (.inl 0), some (.inl (gv h (a + 3) i)), some (.inl 0), some (.inl 0), none]) 36 rfl rfl (Nat.le_of_ble_eq_true rfl) rfl ?_
    -- leaf 1: loop 36 [some (.inr (.inr 30)), some (.inr (.inr a)), some (.inl i), some (.inl 0), some (.inl (gv h (a + 3) i)), some (.inl 0), some (.inl 0), none] st=[] h=h 
    rw [j5]; exact go _ j6.symm
  · rw [if_neg iz, ← ip (by omega)] at j6
    refine p_aload 1 rfl rfl rfl ?_
    refine p_iload 2 rfl rfl rfl ?_
    refine p_callv (le := [some (.inr (.inr a)), some (.inl i)]) (as := [.inr (.inr a), .inl i]) (rest := []) 5 0 0 0 0 rfl rfl (Nat.le_of_ble_eq_true rfl) rfl (Nat.le_of_ble_eq_true rfl) rfl rfl (Nat.le_of_ble_eq_true rfl) rfl (Nat.le_of_ble_eq_true rfl) rfl (Nat.le_refl _) (Nat.le_refl _) rfl rfl B.tag ?_
    refine p_iload 1 rfl rfl rfl ?_
    refine p_if_le_f 4 rfl rfl (by omega) ?_
    refine p_iload 5 rfl rfl rfl ?_
    refine p_aload 6 rfl rfl rfl ?_
    refine p_getfi (j := 0) (z := gv h a 0) 9 rfl rfl rfl B.tag rfl rfl ?_
    refine p_ic_gt_f 12 rfl rfl (by omega) ?_
    refine p_aload 13 rfl rfl rfl ?_
    refine p_getfr (j := 5) (z := a + 3) 16 rfl rfl rfl B.tag rfl B.f5 ?_
    refine p_iload 17 rfl rfl rfl ?_
    refine p_const 18 rfl rfl ?_
    refine p_isub (z := i - 1) 19 rfl rfl (w32_id ⟨(by omega), (by omega)⟩) ?_
    refine p_iald (w := n) (z := gv h (a + 3) (i - 1)) 20 rfl rfl (B.t3) (B.l3) (by omega) (by omega) rfl ?_
    refine p_goto 24 rfl rfl ?_
    refine p_iret rfl rfl ?_
    show Wp (d + 2) 0 0 M_X3_testHolds 5 [some (.inr (.inr 30)), some (.inr (.inr a)), some (.inl i), none, none, none, none, none] [.inl (gv h (a + 3) (i - 1))] h _
    refine p_istore (ls' := [some (.inr (.inr 30)), some (.inr (.inr a)), some (.inl i), some (.inl (gv h (a + 3) (i - 1))), none, none, none, none]) 6 rfl rfl (Nat.le_of_ble_eq_true rfl) rfl ?_
    refine p_iload 7 rfl rfl rfl ?_
    refine p_if_lt_f 10 rfl rfl (by omega) ?_
    refine p_iload 11 rfl rfl rfl ?_
    refine p_aload 12 rfl rfl rfl ?_
    refine p_getfi (j := 0) (z := gv h a 0) 15 rfl rfl rfl B.tag rfl rfl ?_
    refine p_ic_ge_f 18 rfl rfl (by omega) ?_
    refine p_aload 19 rfl rfl rfl ?_
    refine p_getfr (j := 5) (z := a + 3) 22 rfl rfl rfl B.tag rfl B.f5 ?_
    refine p_iload 23 rfl rfl rfl ?_
    refine p_iald (w := n) (z := gv h (a + 3) i) 24 rfl rfl (B.t3) (B.l3) (by omega) (by omega) rfl ?_
    refine p_goto 28 rfl rfl ?_
    refine p_istore (ls' := [some (.inr (.inr 30)), some (.inr (.inr a)), some (.inl i), some (.inl (gv h (a + 3) (i - 1))), some (.inl (gv h (a + 3) i)), none, none, none]) 30 rfl rfl (Nat.le_of_ble_eq_true rfl) rfl ?_
    refine p_const 31 rfl rfl ?_
    refine p_istore (ls' := [some (.inr (.inr 30)), some (.inr (.inr a)), some (.inl i), some (.inl (gv h (a + 3) (i - 1))), some (.inl (gv h (a + 3) i)), some (.inl 0), none, none]) 33 rfl rfl (Nat.le_of_ble_eq_true rfl) rfl ?_
    refine p_iload 34 rfl rfl rfl ?_
    refine p_istore (ls' := [some (.inr (.inr 30)), some (.inr (.inr a)), some (.inl i), some (.inl (gv h (a + 3) (i - 1))), some (.inl (gv h (a + 3) i)), some (.inl 0), some (.inl (gv h (a + 3) (i - 1))), none]) 36 rfl rfl (Nat.le_of_ble_eq_true rfl) rfl ?_
    -- leaf 1: loop 36 [some (.inr (.inr 30)), some (.inr (.inr a)), some (.inl i), some (.inl (gv h (a + 3) (i - 1))), some (.inl (gv h (a + 3) i)), some (.inl 0), some (.inl (gv h (a + 3) (i - 1))), none] st=[] h=h 
    rw [j5]; exact go _ j6.symm
/-! the model's side -/
def mhA (a i : Int) : Bool := decide ((a = 66 ∧ i = 48) ∨ a = 99)
theorem mhA_mA : ∀ a i, mA a i = false → mhA a i = false := fun a i => dw (by omega)
theorem an64_01 {a b : Int} (ha : a = 0 ∨ a = 1) (hb : b = 0 ∨ b = 1) : an64 a b = if a ≠ 0 ∧ b ≠ 0 then 1 else 0 := by
  rcases ha with rfl | rfl <;> rcases hb with rfl | rfl <;> decide
theorem or64_01 {a b : Int} (ha : a = 0 ∨ a = 1) (hb : b = 0 ∨ b = 1) : or64 a b = if a ≠ 0 ∨ b ≠ 0 then 1 else 0 := by
  rcases ha with rfl | rfl <;> rcases hb with rfl | rfl <;> decide
theorem m_clip {d : Nat} {h : PH} {q : PQ} (_S : Shape h) (v : Int) (K : q (some (.inr (.inl (clp v)))) h) : Wp (d + 1) 0 0 M_X12_clip 0 [some (.inr (.inl v)), none] [] h q := by
  refine p_lload 1 rfl rfl rfl ?_
  refine p_lconst 4 rfl rfl ?_
  refine p_lc_le 5 8 14 rfl rfl rfl rfl rfl (fun c1 => ?_) (fun c1 => ?_)
  · skip
    refine p_lload 15 rfl rfl rfl ?_
    refine p_lconst 18 rfl rfl ?_
    refine p_lc_ge 19 22 28 rfl rfl rfl rfl rfl (fun c2 => ?_) (fun c2 => ?_)
    · skip
      refine p_lload 29 rfl rfl rfl ?_
      refine p_lret rfl rfl ?_
      -- leaf 1: answer [.inr (.inl v)] h=h 
      rw [show clp v = v by unfold clp; omega] at K; exact K
    · skip
      refine p_lconst 25 rfl rfl ?_
      refine p_goto 29 rfl rfl ?_
      refine p_lret rfl rfl ?_
      -- leaf 2: answer [.inr (.inl (-1000000000))] h=h 
      rw [show clp v = -1000000000 by unfold clp; omega] at K; exact K
  · skip
    refine p_lconst 11 rfl rfl ?_
    refine p_goto 29 rfl rfl ?_
    refine p_lret rfl rfl ?_
    -- leaf 3: answer [.inr (.inl 1000000000)] h=h 
    rw [show clp v = 1000000000 by unfold clp; omega] at K; exact K
theorem m_joins {d : Nat} {h : PH} {q : PQ} (S : Shape h) (c : Int) {u v : Int} {vs : List Int} (P : Pile h 99 (v :: u :: vs)) (hl : gv h 66 48 = (vs.length : Int) + 2) (l61 : vs.length ≤ 61) (hc : (1 ≤ c ∧ c ≤ 3) ∨ (11 ≤ c ∧ c ≤ 15))
    (ha : -1000000000 ≤ u ∧ u ≤ 1000000000) (hb : -1000000000 ≤ v ∧ v ≤ 1000000000) (h01 : 14 ≤ c → (u = 0 ∨ u = 1) ∧ (v = 0 ∨ v = 1)) (K : ∀ h', (Keep mhA h h' ∧ gv h' 66 48 = (vs.length : Int) + 1 ∧ Pile h' 99 (jx (tcf c) u v :: vs)) → Shape h' → q none h') :
    Wp (d + 2) 0 0 M_X12_joins 0 [some (.inr (.inr 66)), some (.inl c), none, none, none, none] [] h q := by
  have pi := prod_in ha hb
  have P1 : gv h 99 (gv h 66 48 - 1) = v := by rw [hl, show (vs.length : Int) + 2 - 1 = ((u :: vs).length : Int) by show (vs.length : Int) + 2 - 1 = ((vs.length + 1 : Nat) : Int); omega]; exact P.1
  have P2 : gv h 99 (gv h 66 48 - 2) = u := by rw [hl, show (vs.length : Int) + 2 - 2 = (vs.length : Int) by omega]; exact P.2.1
  rw [← P1, ← P2] at pi
  have fin : ∀ h3 val, h3 = sv (sv (sv h 66 48 (gv h 66 48 - 2)) 99 (gv h 66 48 - 2) val) 66 48 (gv h 66 48 - 2 + 1) → val = jx (tcf c) u v → Shape h3 → q none h3 := by
    intro h3 val e z S3
    refine K h3 ⟨?_, ?_, ?_⟩ S3
    · rw [e]; exact (((Keep.rf mhA h).sv rfl _).sv rfl _).sv rfl _
    · rw [e, sv_eq, hl]; omega
    · rw [e, hl, show (vs.length : Int) + 2 - 2 = (vs.length : Int) by omega]
      refine ⟨by rw [sv_ne (by decide), sv_eq, z], P.2.2.of (fun i i0 i1 => ?_)⟩
      rw [sv_ne (by decide), sv_nf (by omega), sv_ne (by decide)]
  refine p_aload 1 rfl rfl rfl ?_
  refine p_getfr (j := 47) (z := 99) 4 rfl rfl rfl (tg_66 S) rfl (fi_66_47 S) ?_
  refine p_aload 5 rfl rfl rfl ?_
  refine p_getfi (j := 48) (z := gv h 66 48) 8 rfl rfl rfl (tg_66 S) rfl rfl ?_
  refine p_const 9 rfl rfl ?_
  refine p_isub (z := (gv h 66 48) - 1) 10 rfl rfl (w32_id ⟨(by omega), (by omega)⟩) ?_
  refine p_lald (w := 800) (z := gv h 99 ((gv h 66 48) - 1)) 11 rfl rfl (tg_99 S) (ln_99 S) (by omega) (by omega) rfl ?_
  refine p_lstore (ls' := [some (.inr (.inr 66)), some (.inl c), some (.inr (.inl (gv h 99 ((gv h 66 48) - 1)))), none, none, none]) 12 rfl rfl (Nat.le_of_ble_eq_true rfl) rfl ?_
  refine p_aload 13 rfl rfl rfl ?_
  refine p_getfr (j := 47) (z := 99) 16 rfl rfl rfl (tg_66 S) rfl (fi_66_47 S) ?_
  refine p_aload 17 rfl rfl rfl ?_
  refine p_getfi (j := 48) (z := gv h 66 48) 20 rfl rfl rfl (tg_66 S) rfl rfl ?_
  refine p_const 21 rfl rfl ?_
  refine p_isub (z := (gv h 66 48) - 2) 22 rfl rfl (w32_id ⟨(by omega), (by omega)⟩) ?_
  refine p_lald (w := 800) (z := gv h 99 ((gv h 66 48) - 2)) 23 rfl rfl (tg_99 S) (ln_99 S) (by omega) (by omega) rfl ?_
  refine p_lstore (ls' := [some (.inr (.inr 66)), some (.inl c), some (.inr (.inl (gv h 99 ((gv h 66 48) - 1)))), none, some (.inr (.inl (gv h 99 ((gv h 66 48) - 2)))), none]) 25 rfl rfl (Nat.le_of_ble_eq_true rfl) rfl ?_
  refine p_aload 26 rfl rfl rfl ?_
  refine p_dup 27 rfl rfl nl_r ?_
  refine p_getfi (j := 48) (z := gv h 66 48) 30 rfl rfl rfl (tg_66 S) rfl rfl ?_
  refine p_const 31 rfl rfl ?_
  refine p_isub (z := (gv h 66 48) - 2) 32 rfl rfl (w32_id ⟨(by omega), (by omega)⟩) ?_
  refine p_putfi (j := 48) 35 rfl rfl rfl (fun z => absurd z (by decide)) (tg_66 S) rfl ?_
  refine p_nmh (fun y1 e1 => ?_)
  have S1 : Shape y1 := by rw [e1]; exact S.svF ff_66_48 _
  refine p_iload 36 rfl rfl rfl ?_
  refine p_swt rfl ?_
  refine ⟨fun c2 => ?_, fun c2 => ?_⟩
  · show Wp (d + 2) 0 0 M_X12_joins 108 [some (.inr (.inr 66)), some (.inl c), some (.inr (.inl (gv h 99 ((gv h 66 48) - 1)))), none, some (.inr (.inl (gv h 99 ((gv h 66 48) - 2)))), none] [] y1 _
    refine p_aload 109 rfl rfl rfl ?_
    refine p_lload 111 rfl rfl rfl ?_
    refine p_lload 112 rfl rfl rfl ?_
    refine p_ladd (z := (gv h 99 ((gv h 66 48) - 2)) + (gv h 99 ((gv h 66 48) - 1))) 113 rfl rfl (w64_id ⟨(by omega), (by omega)⟩) ?_
    refine p_calls (le := [some (.inr (.inl ((gv h 99 ((gv h 66 48) - 2)) + (gv h 99 ((gv h 66 48) - 1))))), none]) (as := [.inr (.inl ((gv h 99 ((gv h 66 48) - 2)) + (gv h 99 ((gv h 66 48) - 1))))]) (rest := [.inr (.inr 66)]) 116 0 0 0 0 rfl rfl (Nat.le_of_ble_eq_true rfl) rfl (Nat.le_of_ble_eq_true rfl) rfl rfl (Nat.le_of_ble_eq_true rfl) rfl (Nat.le_of_ble_eq_true rfl) rfl (Nat.le_refl _) (Nat.le_refl _) rfl rfl ?_
    refine m_clip S1 ((gv h 99 ((gv h 66 48) - 2)) + (gv h 99 ((gv h 66 48) - 1)))  ?_
    show Wp (d + 2) 0 0 M_X12_joins 116 [some (.inr (.inr 66)), some (.inl c), some (.inr (.inl (gv h 99 ((gv h 66 48) - 1)))), none, some (.inr (.inl (gv h 99 ((gv h 66 48) - 2)))), none] [.inr (.inl (clp (((gv h 99 ((gv h 66 48) - 2)) + (gv h 99 ((gv h 66 48) - 1)))))), .inr (.inr 66)] y1 _
    refine p_callv (le := [some (.inr (.inr 66)), some (.inr (.inl (clp (((gv h 99 ((gv h 66 48) - 2)) + (gv h 99 ((gv h 66 48) - 1))))))), none]) (as := [.inr (.inr 66), .inr (.inl (clp (((gv h 99 ((gv h 66 48) - 2)) + (gv h 99 ((gv h 66 48) - 1))))))]) (rest := []) 119 0 0 0 0 rfl rfl (Nat.le_of_ble_eq_true rfl) rfl (Nat.le_of_ble_eq_true rfl) rfl rfl (Nat.le_of_ble_eq_true rfl) rfl (Nat.le_of_ble_eq_true rfl) rfl (Nat.le_refl _) (Nat.le_refl _) rfl rfl (tg_66 S1) ?_
    refine p_aload 1 rfl rfl rfl ?_
    refine p_getfr (j := 47) (z := 99) 4 rfl rfl rfl (tg_66 S1) rfl (fi_66_47 S1) ?_
    refine p_aload 5 rfl rfl rfl ?_
    refine p_getfi (j := 48) (z := (gv h 66 48) - 2) 8 rfl rfl rfl (tg_66 S1) rfl (by rw [e1]; exact sv_eq _ _ _ _) ?_
    refine p_lload 9 rfl rfl rfl ?_
    refine p_last (w := 800) 10 rfl rfl (by decide) (tg_99 S1) (ln_99 S1) (by omega) (by omega) ?_
    refine p_nmh (fun y3 e3 => ?_)
    have S3 : Shape y3 := by rw [e3]; exact S1.svA fa_99 _ _
    refine p_aload 11 rfl rfl rfl ?_
    refine p_dup 12 rfl rfl nl_r ?_
    refine p_getfi (j := 48) (z := (gv h 66 48) - 2) 15 rfl rfl rfl (tg_66 S3) rfl (by rw [e3, sv_ne (by decide)]; rw [e1]; exact sv_eq _ _ _ _) ?_
    refine p_const 16 rfl rfl ?_
    refine p_iadd (z := ((gv h 66 48) - 2) + 1) 17 rfl rfl (w32_id ⟨(by omega), (by omega)⟩) ?_
    refine p_putfi (j := 48) 20 rfl rfl rfl (fun z => absurd z (by decide)) (tg_66 S3) rfl ?_
    refine p_nmh (fun y4 e4 => ?_)
    have S4 : Shape y4 := by rw [e4]; exact S3.svF ff_66_48 _
    refine p_ret rfl rfl ?_
    show Wp (d + 2) 0 0 M_X12_joins 119 [some (.inr (.inr 66)), some (.inl c), some (.inr (.inl (gv h 99 ((gv h 66 48) - 1)))), none, some (.inr (.inl (gv h 99 ((gv h 66 48) - 2)))), none] [] y4 _
    refine p_goto 226 rfl rfl ?_
    refine p_ret rfl rfl ?_
    -- leaf 1: answer [] h=y4 e4,e3,e1
    first | (exfalso; omega) | (refine fin _ _ (by rw [e4, e3, e1]) ?_ S4; rw [P1, P2] at *; subst c2; first | rfl | (rw [an64_01 (h01 (by decide)).1 (h01 (by decide)).2]; rfl) | (unfold jx tcf; simp only [Int.reduceLE, Int.reduceEq, if_true, if_false, Int.reduceNeg, reduceIte]; split <;> omega))
  · have c2_0 := c2
    refine ⟨fun c2 => ?_, fun c2 => ?_⟩
    · show Wp (d + 2) 0 0 M_X12_joins 122 [some (.inr (.inr 66)), some (.inl c), some (.inr (.inl (gv h 99 ((gv h 66 48) - 1)))), none, some (.inr (.inl (gv h 99 ((gv h 66 48) - 2)))), none] [] y1 _
      refine p_aload 123 rfl rfl rfl ?_
      refine p_lload 125 rfl rfl rfl ?_
      refine p_lload 126 rfl rfl rfl ?_
      refine p_lsub (z := (gv h 99 ((gv h 66 48) - 2)) - (gv h 99 ((gv h 66 48) - 1))) 127 rfl rfl (w64_id ⟨(by omega), (by omega)⟩) ?_
      refine p_calls (le := [some (.inr (.inl ((gv h 99 ((gv h 66 48) - 2)) - (gv h 99 ((gv h 66 48) - 1))))), none]) (as := [.inr (.inl ((gv h 99 ((gv h 66 48) - 2)) - (gv h 99 ((gv h 66 48) - 1))))]) (rest := [.inr (.inr 66)]) 130 0 0 0 0 rfl rfl (Nat.le_of_ble_eq_true rfl) rfl (Nat.le_of_ble_eq_true rfl) rfl rfl (Nat.le_of_ble_eq_true rfl) rfl (Nat.le_of_ble_eq_true rfl) rfl (Nat.le_refl _) (Nat.le_refl _) rfl rfl ?_
      refine m_clip S1 ((gv h 99 ((gv h 66 48) - 2)) - (gv h 99 ((gv h 66 48) - 1)))  ?_
      show Wp (d + 2) 0 0 M_X12_joins 130 [some (.inr (.inr 66)), some (.inl c), some (.inr (.inl (gv h 99 ((gv h 66 48) - 1)))), none, some (.inr (.inl (gv h 99 ((gv h 66 48) - 2)))), none] [.inr (.inl (clp (((gv h 99 ((gv h 66 48) - 2)) - (gv h 99 ((gv h 66 48) - 1)))))), .inr (.inr 66)] y1 _
      refine p_callv (le := [some (.inr (.inr 66)), some (.inr (.inl (clp (((gv h 99 ((gv h 66 48) - 2)) - (gv h 99 ((gv h 66 48) - 1))))))), none]) (as := [.inr (.inr 66), .inr (.inl (clp (((gv h 99 ((gv h 66 48) - 2)) - (gv h 99 ((gv h 66 48) - 1))))))]) (rest := []) 133 0 0 0 0 rfl rfl (Nat.le_of_ble_eq_true rfl) rfl (Nat.le_of_ble_eq_true rfl) rfl rfl (Nat.le_of_ble_eq_true rfl) rfl (Nat.le_of_ble_eq_true rfl) rfl (Nat.le_refl _) (Nat.le_refl _) rfl rfl (tg_66 S1) ?_
      refine p_aload 1 rfl rfl rfl ?_
      refine p_getfr (j := 47) (z := 99) 4 rfl rfl rfl (tg_66 S1) rfl (fi_66_47 S1) ?_
      refine p_aload 5 rfl rfl rfl ?_
      refine p_getfi (j := 48) (z := (gv h 66 48) - 2) 8 rfl rfl rfl (tg_66 S1) rfl (by rw [e1]; exact sv_eq _ _ _ _) ?_
      refine p_lload 9 rfl rfl rfl ?_
      refine p_last (w := 800) 10 rfl rfl (by decide) (tg_99 S1) (ln_99 S1) (by omega) (by omega) ?_
      refine p_nmh (fun y5 e5 => ?_)
      have S5 : Shape y5 := by rw [e5]; exact S1.svA fa_99 _ _
      refine p_aload 11 rfl rfl rfl ?_
      refine p_dup 12 rfl rfl nl_r ?_
      refine p_getfi (j := 48) (z := (gv h 66 48) - 2) 15 rfl rfl rfl (tg_66 S5) rfl (by rw [e5, sv_ne (by decide)]; rw [e1]; exact sv_eq _ _ _ _) ?_
      refine p_const 16 rfl rfl ?_
      refine p_iadd (z := ((gv h 66 48) - 2) + 1) 17 rfl rfl (w32_id ⟨(by omega), (by omega)⟩) ?_
      refine p_putfi (j := 48) 20 rfl rfl rfl (fun z => absurd z (by decide)) (tg_66 S5) rfl ?_
      refine p_nmh (fun y6 e6 => ?_)
      have S6 : Shape y6 := by rw [e6]; exact S5.svF ff_66_48 _
      refine p_ret rfl rfl ?_
      show Wp (d + 2) 0 0 M_X12_joins 133 [some (.inr (.inr 66)), some (.inl c), some (.inr (.inl (gv h 99 ((gv h 66 48) - 1)))), none, some (.inr (.inl (gv h 99 ((gv h 66 48) - 2)))), none] [] y6 _
      refine p_goto 226 rfl rfl ?_
      refine p_ret rfl rfl ?_
      -- leaf 2: answer [] h=y6 e6,e5,e1
      first | (exfalso; omega) | (refine fin _ _ (by rw [e6, e5, e1]) ?_ S6; rw [P1, P2] at *; subst c2; first | rfl | (rw [an64_01 (h01 (by decide)).1 (h01 (by decide)).2]; rfl) | (unfold jx tcf; simp only [Int.reduceLE, Int.reduceEq, if_true, if_false, Int.reduceNeg, reduceIte]; split <;> omega))
    · have c2_1 := c2
      refine ⟨fun c2 => ?_, fun c2 => ?_⟩
      · show Wp (d + 2) 0 0 M_X12_joins 136 [some (.inr (.inr 66)), some (.inl c), some (.inr (.inl (gv h 99 ((gv h 66 48) - 1)))), none, some (.inr (.inl (gv h 99 ((gv h 66 48) - 2)))), none] [] y1 _
        refine p_aload 137 rfl rfl rfl ?_
        refine p_lload 139 rfl rfl rfl ?_
        refine p_lload 140 rfl rfl rfl ?_
        refine p_lmul (z := (gv h 99 ((gv h 66 48) - 2)) * (gv h 99 ((gv h 66 48) - 1))) 141 rfl rfl (w64_id ⟨(by omega), (by omega)⟩) ?_
        refine p_calls (le := [some (.inr (.inl ((gv h 99 ((gv h 66 48) - 2)) * (gv h 99 ((gv h 66 48) - 1))))), none]) (as := [.inr (.inl ((gv h 99 ((gv h 66 48) - 2)) * (gv h 99 ((gv h 66 48) - 1))))]) (rest := [.inr (.inr 66)]) 144 0 0 0 0 rfl rfl (Nat.le_of_ble_eq_true rfl) rfl (Nat.le_of_ble_eq_true rfl) rfl rfl (Nat.le_of_ble_eq_true rfl) rfl (Nat.le_of_ble_eq_true rfl) rfl (Nat.le_refl _) (Nat.le_refl _) rfl rfl ?_
        refine m_clip S1 ((gv h 99 ((gv h 66 48) - 2)) * (gv h 99 ((gv h 66 48) - 1)))  ?_
        show Wp (d + 2) 0 0 M_X12_joins 144 [some (.inr (.inr 66)), some (.inl c), some (.inr (.inl (gv h 99 ((gv h 66 48) - 1)))), none, some (.inr (.inl (gv h 99 ((gv h 66 48) - 2)))), none] [.inr (.inl (clp (((gv h 99 ((gv h 66 48) - 2)) * (gv h 99 ((gv h 66 48) - 1)))))), .inr (.inr 66)] y1 _
        refine p_callv (le := [some (.inr (.inr 66)), some (.inr (.inl (clp (((gv h 99 ((gv h 66 48) - 2)) * (gv h 99 ((gv h 66 48) - 1))))))), none]) (as := [.inr (.inr 66), .inr (.inl (clp (((gv h 99 ((gv h 66 48) - 2)) * (gv h 99 ((gv h 66 48) - 1))))))]) (rest := []) 147 0 0 0 0 rfl rfl (Nat.le_of_ble_eq_true rfl) rfl (Nat.le_of_ble_eq_true rfl) rfl rfl (Nat.le_of_ble_eq_true rfl) rfl (Nat.le_of_ble_eq_true rfl) rfl (Nat.le_refl _) (Nat.le_refl _) rfl rfl (tg_66 S1) ?_
        refine p_aload 1 rfl rfl rfl ?_
        refine p_getfr (j := 47) (z := 99) 4 rfl rfl rfl (tg_66 S1) rfl (fi_66_47 S1) ?_
        refine p_aload 5 rfl rfl rfl ?_
        refine p_getfi (j := 48) (z := (gv h 66 48) - 2) 8 rfl rfl rfl (tg_66 S1) rfl (by rw [e1]; exact sv_eq _ _ _ _) ?_
        refine p_lload 9 rfl rfl rfl ?_
        refine p_last (w := 800) 10 rfl rfl (by decide) (tg_99 S1) (ln_99 S1) (by omega) (by omega) ?_
        refine p_nmh (fun y7 e7 => ?_)
        have S7 : Shape y7 := by rw [e7]; exact S1.svA fa_99 _ _
        refine p_aload 11 rfl rfl rfl ?_
        refine p_dup 12 rfl rfl nl_r ?_
        refine p_getfi (j := 48) (z := (gv h 66 48) - 2) 15 rfl rfl rfl (tg_66 S7) rfl (by rw [e7, sv_ne (by decide)]; rw [e1]; exact sv_eq _ _ _ _) ?_
        refine p_const 16 rfl rfl ?_
        refine p_iadd (z := ((gv h 66 48) - 2) + 1) 17 rfl rfl (w32_id ⟨(by omega), (by omega)⟩) ?_
        refine p_putfi (j := 48) 20 rfl rfl rfl (fun z => absurd z (by decide)) (tg_66 S7) rfl ?_
        refine p_nmh (fun y8 e8 => ?_)
        have S8 : Shape y8 := by rw [e8]; exact S7.svF ff_66_48 _
        refine p_ret rfl rfl ?_
        show Wp (d + 2) 0 0 M_X12_joins 147 [some (.inr (.inr 66)), some (.inl c), some (.inr (.inl (gv h 99 ((gv h 66 48) - 1)))), none, some (.inr (.inl (gv h 99 ((gv h 66 48) - 2)))), none] [] y8 _
        refine p_goto 226 rfl rfl ?_
        refine p_ret rfl rfl ?_
        -- leaf 3: answer [] h=y8 e8,e7,e1
        first | (exfalso; omega) | (refine fin _ _ (by rw [e8, e7, e1]) ?_ S8; rw [P1, P2] at *; subst c2; first | rfl | (rw [an64_01 (h01 (by decide)).1 (h01 (by decide)).2]; rfl) | (unfold jx tcf; simp only [Int.reduceLE, Int.reduceEq, if_true, if_false, Int.reduceNeg, reduceIte]; split <;> omega))
      · have c2_2 := c2
        refine ⟨fun c2 => ?_, fun c2 => ?_⟩
        · show Wp (d + 2) 0 0 M_X12_joins 218 [some (.inr (.inr 66)), some (.inl c), some (.inr (.inl (gv h 99 ((gv h 66 48) - 1)))), none, some (.inr (.inl (gv h 99 ((gv h 66 48) - 2)))), none] [] y1 _
          refine p_aload 219 rfl rfl rfl ?_
          refine p_lload 221 rfl rfl rfl ?_
          refine p_lload 222 rfl rfl rfl ?_
          refine p_lor (z := or64 (gv h 99 ((gv h 66 48) - 2)) (gv h 99 ((gv h 66 48) - 1))) 223 rfl rfl rfl ?_
          refine p_callv (le := [some (.inr (.inr 66)), some (.inr (.inl (or64 (gv h 99 ((gv h 66 48) - 2)) (gv h 99 ((gv h 66 48) - 1))))), none]) (as := [.inr (.inr 66), .inr (.inl (or64 (gv h 99 ((gv h 66 48) - 2)) (gv h 99 ((gv h 66 48) - 1))))]) (rest := []) 226 0 0 0 0 rfl rfl (Nat.le_of_ble_eq_true rfl) rfl (Nat.le_of_ble_eq_true rfl) rfl rfl (Nat.le_of_ble_eq_true rfl) rfl (Nat.le_of_ble_eq_true rfl) rfl (Nat.le_refl _) (Nat.le_refl _) rfl rfl (tg_66 S1) ?_
          refine p_aload 1 rfl rfl rfl ?_
          refine p_getfr (j := 47) (z := 99) 4 rfl rfl rfl (tg_66 S1) rfl (fi_66_47 S1) ?_
          refine p_aload 5 rfl rfl rfl ?_
          refine p_getfi (j := 48) (z := (gv h 66 48) - 2) 8 rfl rfl rfl (tg_66 S1) rfl (by rw [e1]; exact sv_eq _ _ _ _) ?_
          refine p_lload 9 rfl rfl rfl ?_
          refine p_last (w := 800) 10 rfl rfl (by decide) (tg_99 S1) (ln_99 S1) (by omega) (by omega) ?_
          refine p_nmh (fun y9 e9 => ?_)
          have S9 : Shape y9 := by rw [e9]; exact S1.svA fa_99 _ _
          refine p_aload 11 rfl rfl rfl ?_
          refine p_dup 12 rfl rfl nl_r ?_
          refine p_getfi (j := 48) (z := (gv h 66 48) - 2) 15 rfl rfl rfl (tg_66 S9) rfl (by rw [e9, sv_ne (by decide)]; rw [e1]; exact sv_eq _ _ _ _) ?_
          refine p_const 16 rfl rfl ?_
          refine p_iadd (z := ((gv h 66 48) - 2) + 1) 17 rfl rfl (w32_id ⟨(by omega), (by omega)⟩) ?_
          refine p_putfi (j := 48) 20 rfl rfl rfl (fun z => absurd z (by decide)) (tg_66 S9) rfl ?_
          refine p_nmh (fun y10 e10 => ?_)
          have S10 : Shape y10 := by rw [e10]; exact S9.svF ff_66_48 _
          refine p_ret rfl rfl ?_
          show Wp (d + 2) 0 0 M_X12_joins 226 [some (.inr (.inr 66)), some (.inl c), some (.inr (.inl (gv h 99 ((gv h 66 48) - 1)))), none, some (.inr (.inl (gv h 99 ((gv h 66 48) - 2)))), none] [] y10 _
          refine p_ret rfl rfl ?_
          -- leaf 4: answer [] h=y10 e10,e9,e1
          first | (exfalso; omega) | (refine fin _ _ (by rw [e10, e9, e1]) ?_ S10; rw [P1, P2] at *; subst c2; first | rfl | (rw [an64_01 (h01 (by decide)).1 (h01 (by decide)).2]; rfl) | (unfold jx tcf; simp only [Int.reduceLE, Int.reduceEq, if_true, if_false, Int.reduceNeg, reduceIte]; split <;> omega))
        · have c2_3 := c2
          refine ⟨fun c2 => ?_, fun c2 => ?_⟩
          · show Wp (d + 2) 0 0 M_X12_joins 218 [some (.inr (.inr 66)), some (.inl c), some (.inr (.inl (gv h 99 ((gv h 66 48) - 1)))), none, some (.inr (.inl (gv h 99 ((gv h 66 48) - 2)))), none] [] y1 _
            refine p_aload 219 rfl rfl rfl ?_
            refine p_lload 221 rfl rfl rfl ?_
            refine p_lload 222 rfl rfl rfl ?_
            refine p_lor (z := or64 (gv h 99 ((gv h 66 48) - 2)) (gv h 99 ((gv h 66 48) - 1))) 223 rfl rfl rfl ?_
            refine p_callv (le := [some (.inr (.inr 66)), some (.inr (.inl (or64 (gv h 99 ((gv h 66 48) - 2)) (gv h 99 ((gv h 66 48) - 1))))), none]) (as := [.inr (.inr 66), .inr (.inl (or64 (gv h 99 ((gv h 66 48) - 2)) (gv h 99 ((gv h 66 48) - 1))))]) (rest := []) 226 0 0 0 0 rfl rfl (Nat.le_of_ble_eq_true rfl) rfl (Nat.le_of_ble_eq_true rfl) rfl rfl (Nat.le_of_ble_eq_true rfl) rfl (Nat.le_of_ble_eq_true rfl) rfl (Nat.le_refl _) (Nat.le_refl _) rfl rfl (tg_66 S1) ?_
            refine p_aload 1 rfl rfl rfl ?_
            refine p_getfr (j := 47) (z := 99) 4 rfl rfl rfl (tg_66 S1) rfl (fi_66_47 S1) ?_
            refine p_aload 5 rfl rfl rfl ?_
            refine p_getfi (j := 48) (z := (gv h 66 48) - 2) 8 rfl rfl rfl (tg_66 S1) rfl (by rw [e1]; exact sv_eq _ _ _ _) ?_
            refine p_lload 9 rfl rfl rfl ?_
            refine p_last (w := 800) 10 rfl rfl (by decide) (tg_99 S1) (ln_99 S1) (by omega) (by omega) ?_
            refine p_nmh (fun y11 e11 => ?_)
            have S11 : Shape y11 := by rw [e11]; exact S1.svA fa_99 _ _
            refine p_aload 11 rfl rfl rfl ?_
            refine p_dup 12 rfl rfl nl_r ?_
            refine p_getfi (j := 48) (z := (gv h 66 48) - 2) 15 rfl rfl rfl (tg_66 S11) rfl (by rw [e11, sv_ne (by decide)]; rw [e1]; exact sv_eq _ _ _ _) ?_
            refine p_const 16 rfl rfl ?_
            refine p_iadd (z := ((gv h 66 48) - 2) + 1) 17 rfl rfl (w32_id ⟨(by omega), (by omega)⟩) ?_
            refine p_putfi (j := 48) 20 rfl rfl rfl (fun z => absurd z (by decide)) (tg_66 S11) rfl ?_
            refine p_nmh (fun y12 e12 => ?_)
            have S12 : Shape y12 := by rw [e12]; exact S11.svF ff_66_48 _
            refine p_ret rfl rfl ?_
            show Wp (d + 2) 0 0 M_X12_joins 226 [some (.inr (.inr 66)), some (.inl c), some (.inr (.inl (gv h 99 ((gv h 66 48) - 1)))), none, some (.inr (.inl (gv h 99 ((gv h 66 48) - 2)))), none] [] y12 _
            refine p_ret rfl rfl ?_
            -- leaf 5: answer [] h=y12 e12,e11,e1
            first | (exfalso; omega) | (refine fin _ _ (by rw [e12, e11, e1]) ?_ S12; rw [P1, P2] at *; subst c2; first | rfl | (rw [an64_01 (h01 (by decide)).1 (h01 (by decide)).2]; rfl) | (unfold jx tcf; simp only [Int.reduceLE, Int.reduceEq, if_true, if_false, Int.reduceNeg, reduceIte]; split <;> omega))
          · have c2_4 := c2
            refine ⟨fun c2 => ?_, fun c2 => ?_⟩
            · show Wp (d + 2) 0 0 M_X12_joins 218 [some (.inr (.inr 66)), some (.inl c), some (.inr (.inl (gv h 99 ((gv h 66 48) - 1)))), none, some (.inr (.inl (gv h 99 ((gv h 66 48) - 2)))), none] [] y1 _
              refine p_aload 219 rfl rfl rfl ?_
              refine p_lload 221 rfl rfl rfl ?_
              refine p_lload 222 rfl rfl rfl ?_
              refine p_lor (z := or64 (gv h 99 ((gv h 66 48) - 2)) (gv h 99 ((gv h 66 48) - 1))) 223 rfl rfl rfl ?_
              refine p_callv (le := [some (.inr (.inr 66)), some (.inr (.inl (or64 (gv h 99 ((gv h 66 48) - 2)) (gv h 99 ((gv h 66 48) - 1))))), none]) (as := [.inr (.inr 66), .inr (.inl (or64 (gv h 99 ((gv h 66 48) - 2)) (gv h 99 ((gv h 66 48) - 1))))]) (rest := []) 226 0 0 0 0 rfl rfl (Nat.le_of_ble_eq_true rfl) rfl (Nat.le_of_ble_eq_true rfl) rfl rfl (Nat.le_of_ble_eq_true rfl) rfl (Nat.le_of_ble_eq_true rfl) rfl (Nat.le_refl _) (Nat.le_refl _) rfl rfl (tg_66 S1) ?_
              refine p_aload 1 rfl rfl rfl ?_
              refine p_getfr (j := 47) (z := 99) 4 rfl rfl rfl (tg_66 S1) rfl (fi_66_47 S1) ?_
              refine p_aload 5 rfl rfl rfl ?_
              refine p_getfi (j := 48) (z := (gv h 66 48) - 2) 8 rfl rfl rfl (tg_66 S1) rfl (by rw [e1]; exact sv_eq _ _ _ _) ?_
              refine p_lload 9 rfl rfl rfl ?_
              refine p_last (w := 800) 10 rfl rfl (by decide) (tg_99 S1) (ln_99 S1) (by omega) (by omega) ?_
              refine p_nmh (fun y13 e13 => ?_)
              have S13 : Shape y13 := by rw [e13]; exact S1.svA fa_99 _ _
              refine p_aload 11 rfl rfl rfl ?_
              refine p_dup 12 rfl rfl nl_r ?_
              refine p_getfi (j := 48) (z := (gv h 66 48) - 2) 15 rfl rfl rfl (tg_66 S13) rfl (by rw [e13, sv_ne (by decide)]; rw [e1]; exact sv_eq _ _ _ _) ?_
              refine p_const 16 rfl rfl ?_
              refine p_iadd (z := ((gv h 66 48) - 2) + 1) 17 rfl rfl (w32_id ⟨(by omega), (by omega)⟩) ?_
              refine p_putfi (j := 48) 20 rfl rfl rfl (fun z => absurd z (by decide)) (tg_66 S13) rfl ?_
              refine p_nmh (fun y14 e14 => ?_)
              have S14 : Shape y14 := by rw [e14]; exact S13.svF ff_66_48 _
              refine p_ret rfl rfl ?_
              show Wp (d + 2) 0 0 M_X12_joins 226 [some (.inr (.inr 66)), some (.inl c), some (.inr (.inl (gv h 99 ((gv h 66 48) - 1)))), none, some (.inr (.inl (gv h 99 ((gv h 66 48) - 2)))), none] [] y14 _
              refine p_ret rfl rfl ?_
              -- leaf 6: answer [] h=y14 e14,e13,e1
              first | (exfalso; omega) | (refine fin _ _ (by rw [e14, e13, e1]) ?_ S14; rw [P1, P2] at *; subst c2; first | rfl | (rw [an64_01 (h01 (by decide)).1 (h01 (by decide)).2]; rfl) | (unfold jx tcf; simp only [Int.reduceLE, Int.reduceEq, if_true, if_false, Int.reduceNeg, reduceIte]; split <;> omega))
            · have c2_5 := c2
              refine ⟨fun c2 => ?_, fun c2 => ?_⟩
              · show Wp (d + 2) 0 0 M_X12_joins 218 [some (.inr (.inr 66)), some (.inl c), some (.inr (.inl (gv h 99 ((gv h 66 48) - 1)))), none, some (.inr (.inl (gv h 99 ((gv h 66 48) - 2)))), none] [] y1 _
                refine p_aload 219 rfl rfl rfl ?_
                refine p_lload 221 rfl rfl rfl ?_
                refine p_lload 222 rfl rfl rfl ?_
                refine p_lor (z := or64 (gv h 99 ((gv h 66 48) - 2)) (gv h 99 ((gv h 66 48) - 1))) 223 rfl rfl rfl ?_
                refine p_callv (le := [some (.inr (.inr 66)), some (.inr (.inl (or64 (gv h 99 ((gv h 66 48) - 2)) (gv h 99 ((gv h 66 48) - 1))))), none]) (as := [.inr (.inr 66), .inr (.inl (or64 (gv h 99 ((gv h 66 48) - 2)) (gv h 99 ((gv h 66 48) - 1))))]) (rest := []) 226 0 0 0 0 rfl rfl (Nat.le_of_ble_eq_true rfl) rfl (Nat.le_of_ble_eq_true rfl) rfl rfl (Nat.le_of_ble_eq_true rfl) rfl (Nat.le_of_ble_eq_true rfl) rfl (Nat.le_refl _) (Nat.le_refl _) rfl rfl (tg_66 S1) ?_
                refine p_aload 1 rfl rfl rfl ?_
                refine p_getfr (j := 47) (z := 99) 4 rfl rfl rfl (tg_66 S1) rfl (fi_66_47 S1) ?_
                refine p_aload 5 rfl rfl rfl ?_
                refine p_getfi (j := 48) (z := (gv h 66 48) - 2) 8 rfl rfl rfl (tg_66 S1) rfl (by rw [e1]; exact sv_eq _ _ _ _) ?_
                refine p_lload 9 rfl rfl rfl ?_
                refine p_last (w := 800) 10 rfl rfl (by decide) (tg_99 S1) (ln_99 S1) (by omega) (by omega) ?_
                refine p_nmh (fun y15 e15 => ?_)
                have S15 : Shape y15 := by rw [e15]; exact S1.svA fa_99 _ _
                refine p_aload 11 rfl rfl rfl ?_
                refine p_dup 12 rfl rfl nl_r ?_
                refine p_getfi (j := 48) (z := (gv h 66 48) - 2) 15 rfl rfl rfl (tg_66 S15) rfl (by rw [e15, sv_ne (by decide)]; rw [e1]; exact sv_eq _ _ _ _) ?_
                refine p_const 16 rfl rfl ?_
                refine p_iadd (z := ((gv h 66 48) - 2) + 1) 17 rfl rfl (w32_id ⟨(by omega), (by omega)⟩) ?_
                refine p_putfi (j := 48) 20 rfl rfl rfl (fun z => absurd z (by decide)) (tg_66 S15) rfl ?_
                refine p_nmh (fun y16 e16 => ?_)
                have S16 : Shape y16 := by rw [e16]; exact S15.svF ff_66_48 _
                refine p_ret rfl rfl ?_
                show Wp (d + 2) 0 0 M_X12_joins 226 [some (.inr (.inr 66)), some (.inl c), some (.inr (.inl (gv h 99 ((gv h 66 48) - 1)))), none, some (.inr (.inl (gv h 99 ((gv h 66 48) - 2)))), none] [] y16 _
                refine p_ret rfl rfl ?_
                -- leaf 7: answer [] h=y16 e16,e15,e1
                first | (exfalso; omega) | (refine fin _ _ (by rw [e16, e15, e1]) ?_ S16; rw [P1, P2] at *; subst c2; first | rfl | (rw [an64_01 (h01 (by decide)).1 (h01 (by decide)).2]; rfl) | (unfold jx tcf; simp only [Int.reduceLE, Int.reduceEq, if_true, if_false, Int.reduceNeg, reduceIte]; split <;> omega))
              · have c2_6 := c2
                refine ⟨fun c2 => ?_, fun c2 => ?_⟩
                · show Wp (d + 2) 0 0 M_X12_joins 218 [some (.inr (.inr 66)), some (.inl c), some (.inr (.inl (gv h 99 ((gv h 66 48) - 1)))), none, some (.inr (.inl (gv h 99 ((gv h 66 48) - 2)))), none] [] y1 _
                  refine p_aload 219 rfl rfl rfl ?_
                  refine p_lload 221 rfl rfl rfl ?_
                  refine p_lload 222 rfl rfl rfl ?_
                  refine p_lor (z := or64 (gv h 99 ((gv h 66 48) - 2)) (gv h 99 ((gv h 66 48) - 1))) 223 rfl rfl rfl ?_
                  refine p_callv (le := [some (.inr (.inr 66)), some (.inr (.inl (or64 (gv h 99 ((gv h 66 48) - 2)) (gv h 99 ((gv h 66 48) - 1))))), none]) (as := [.inr (.inr 66), .inr (.inl (or64 (gv h 99 ((gv h 66 48) - 2)) (gv h 99 ((gv h 66 48) - 1))))]) (rest := []) 226 0 0 0 0 rfl rfl (Nat.le_of_ble_eq_true rfl) rfl (Nat.le_of_ble_eq_true rfl) rfl rfl (Nat.le_of_ble_eq_true rfl) rfl (Nat.le_of_ble_eq_true rfl) rfl (Nat.le_refl _) (Nat.le_refl _) rfl rfl (tg_66 S1) ?_
                  refine p_aload 1 rfl rfl rfl ?_
                  refine p_getfr (j := 47) (z := 99) 4 rfl rfl rfl (tg_66 S1) rfl (fi_66_47 S1) ?_
                  refine p_aload 5 rfl rfl rfl ?_
                  refine p_getfi (j := 48) (z := (gv h 66 48) - 2) 8 rfl rfl rfl (tg_66 S1) rfl (by rw [e1]; exact sv_eq _ _ _ _) ?_
                  refine p_lload 9 rfl rfl rfl ?_
                  refine p_last (w := 800) 10 rfl rfl (by decide) (tg_99 S1) (ln_99 S1) (by omega) (by omega) ?_
                  refine p_nmh (fun y17 e17 => ?_)
                  have S17 : Shape y17 := by rw [e17]; exact S1.svA fa_99 _ _
                  refine p_aload 11 rfl rfl rfl ?_
                  refine p_dup 12 rfl rfl nl_r ?_
                  refine p_getfi (j := 48) (z := (gv h 66 48) - 2) 15 rfl rfl rfl (tg_66 S17) rfl (by rw [e17, sv_ne (by decide)]; rw [e1]; exact sv_eq _ _ _ _) ?_
                  refine p_const 16 rfl rfl ?_
                  refine p_iadd (z := ((gv h 66 48) - 2) + 1) 17 rfl rfl (w32_id ⟨(by omega), (by omega)⟩) ?_
                  refine p_putfi (j := 48) 20 rfl rfl rfl (fun z => absurd z (by decide)) (tg_66 S17) rfl ?_
                  refine p_nmh (fun y18 e18 => ?_)
                  have S18 : Shape y18 := by rw [e18]; exact S17.svF ff_66_48 _
                  refine p_ret rfl rfl ?_
                  show Wp (d + 2) 0 0 M_X12_joins 226 [some (.inr (.inr 66)), some (.inl c), some (.inr (.inl (gv h 99 ((gv h 66 48) - 1)))), none, some (.inr (.inl (gv h 99 ((gv h 66 48) - 2)))), none] [] y18 _
                  refine p_ret rfl rfl ?_
                  -- leaf 8: answer [] h=y18 e18,e17,e1
                  first | (exfalso; omega) | (refine fin _ _ (by rw [e18, e17, e1]) ?_ S18; rw [P1, P2] at *; subst c2; first | rfl | (rw [an64_01 (h01 (by decide)).1 (h01 (by decide)).2]; rfl) | (unfold jx tcf; simp only [Int.reduceLE, Int.reduceEq, if_true, if_false, Int.reduceNeg, reduceIte]; split <;> omega))
                · have c2_7 := c2
                  refine ⟨fun c2 => ?_, fun c2 => ?_⟩
                  · show Wp (d + 2) 0 0 M_X12_joins 218 [some (.inr (.inr 66)), some (.inl c), some (.inr (.inl (gv h 99 ((gv h 66 48) - 1)))), none, some (.inr (.inl (gv h 99 ((gv h 66 48) - 2)))), none] [] y1 _
                    refine p_aload 219 rfl rfl rfl ?_
                    refine p_lload 221 rfl rfl rfl ?_
                    refine p_lload 222 rfl rfl rfl ?_
                    refine p_lor (z := or64 (gv h 99 ((gv h 66 48) - 2)) (gv h 99 ((gv h 66 48) - 1))) 223 rfl rfl rfl ?_
                    refine p_callv (le := [some (.inr (.inr 66)), some (.inr (.inl (or64 (gv h 99 ((gv h 66 48) - 2)) (gv h 99 ((gv h 66 48) - 1))))), none]) (as := [.inr (.inr 66), .inr (.inl (or64 (gv h 99 ((gv h 66 48) - 2)) (gv h 99 ((gv h 66 48) - 1))))]) (rest := []) 226 0 0 0 0 rfl rfl (Nat.le_of_ble_eq_true rfl) rfl (Nat.le_of_ble_eq_true rfl) rfl rfl (Nat.le_of_ble_eq_true rfl) rfl (Nat.le_of_ble_eq_true rfl) rfl (Nat.le_refl _) (Nat.le_refl _) rfl rfl (tg_66 S1) ?_
                    refine p_aload 1 rfl rfl rfl ?_
                    refine p_getfr (j := 47) (z := 99) 4 rfl rfl rfl (tg_66 S1) rfl (fi_66_47 S1) ?_
                    refine p_aload 5 rfl rfl rfl ?_
                    refine p_getfi (j := 48) (z := (gv h 66 48) - 2) 8 rfl rfl rfl (tg_66 S1) rfl (by rw [e1]; exact sv_eq _ _ _ _) ?_
                    refine p_lload 9 rfl rfl rfl ?_
                    refine p_last (w := 800) 10 rfl rfl (by decide) (tg_99 S1) (ln_99 S1) (by omega) (by omega) ?_
                    refine p_nmh (fun y19 e19 => ?_)
                    have S19 : Shape y19 := by rw [e19]; exact S1.svA fa_99 _ _
                    refine p_aload 11 rfl rfl rfl ?_
                    refine p_dup 12 rfl rfl nl_r ?_
                    refine p_getfi (j := 48) (z := (gv h 66 48) - 2) 15 rfl rfl rfl (tg_66 S19) rfl (by rw [e19, sv_ne (by decide)]; rw [e1]; exact sv_eq _ _ _ _) ?_
                    refine p_const 16 rfl rfl ?_
                    refine p_iadd (z := ((gv h 66 48) - 2) + 1) 17 rfl rfl (w32_id ⟨(by omega), (by omega)⟩) ?_
                    refine p_putfi (j := 48) 20 rfl rfl rfl (fun z => absurd z (by decide)) (tg_66 S19) rfl ?_
                    refine p_nmh (fun y20 e20 => ?_)
                    have S20 : Shape y20 := by rw [e20]; exact S19.svF ff_66_48 _
                    refine p_ret rfl rfl ?_
                    show Wp (d + 2) 0 0 M_X12_joins 226 [some (.inr (.inr 66)), some (.inl c), some (.inr (.inl (gv h 99 ((gv h 66 48) - 1)))), none, some (.inr (.inl (gv h 99 ((gv h 66 48) - 2)))), none] [] y20 _
                    refine p_ret rfl rfl ?_
                    -- leaf 9: answer [] h=y20 e20,e19,e1
                    first | (exfalso; omega) | (refine fin _ _ (by rw [e20, e19, e1]) ?_ S20; rw [P1, P2] at *; subst c2; first | rfl | (rw [an64_01 (h01 (by decide)).1 (h01 (by decide)).2]; rfl) | (unfold jx tcf; simp only [Int.reduceLE, Int.reduceEq, if_true, if_false, Int.reduceNeg, reduceIte]; split <;> omega))
                  · have c2_8 := c2
                    refine ⟨fun c2 => ?_, fun c2 => ?_⟩
                    · show Wp (d + 2) 0 0 M_X12_joins 218 [some (.inr (.inr 66)), some (.inl c), some (.inr (.inl (gv h 99 ((gv h 66 48) - 1)))), none, some (.inr (.inl (gv h 99 ((gv h 66 48) - 2)))), none] [] y1 _
                      refine p_aload 219 rfl rfl rfl ?_
                      refine p_lload 221 rfl rfl rfl ?_
                      refine p_lload 222 rfl rfl rfl ?_
                      refine p_lor (z := or64 (gv h 99 ((gv h 66 48) - 2)) (gv h 99 ((gv h 66 48) - 1))) 223 rfl rfl rfl ?_
                      refine p_callv (le := [some (.inr (.inr 66)), some (.inr (.inl (or64 (gv h 99 ((gv h 66 48) - 2)) (gv h 99 ((gv h 66 48) - 1))))), none]) (as := [.inr (.inr 66), .inr (.inl (or64 (gv h 99 ((gv h 66 48) - 2)) (gv h 99 ((gv h 66 48) - 1))))]) (rest := []) 226 0 0 0 0 rfl rfl (Nat.le_of_ble_eq_true rfl) rfl (Nat.le_of_ble_eq_true rfl) rfl rfl (Nat.le_of_ble_eq_true rfl) rfl (Nat.le_of_ble_eq_true rfl) rfl (Nat.le_refl _) (Nat.le_refl _) rfl rfl (tg_66 S1) ?_
                      refine p_aload 1 rfl rfl rfl ?_
                      refine p_getfr (j := 47) (z := 99) 4 rfl rfl rfl (tg_66 S1) rfl (fi_66_47 S1) ?_
                      refine p_aload 5 rfl rfl rfl ?_
                      refine p_getfi (j := 48) (z := (gv h 66 48) - 2) 8 rfl rfl rfl (tg_66 S1) rfl (by rw [e1]; exact sv_eq _ _ _ _) ?_
                      refine p_lload 9 rfl rfl rfl ?_
                      refine p_last (w := 800) 10 rfl rfl (by decide) (tg_99 S1) (ln_99 S1) (by omega) (by omega) ?_
                      refine p_nmh (fun y21 e21 => ?_)
                      have S21 : Shape y21 := by rw [e21]; exact S1.svA fa_99 _ _
                      refine p_aload 11 rfl rfl rfl ?_
                      refine p_dup 12 rfl rfl nl_r ?_
                      refine p_getfi (j := 48) (z := (gv h 66 48) - 2) 15 rfl rfl rfl (tg_66 S21) rfl (by rw [e21, sv_ne (by decide)]; rw [e1]; exact sv_eq _ _ _ _) ?_
                      refine p_const 16 rfl rfl ?_
                      refine p_iadd (z := ((gv h 66 48) - 2) + 1) 17 rfl rfl (w32_id ⟨(by omega), (by omega)⟩) ?_
                      refine p_putfi (j := 48) 20 rfl rfl rfl (fun z => absurd z (by decide)) (tg_66 S21) rfl ?_
                      refine p_nmh (fun y22 e22 => ?_)
                      have S22 : Shape y22 := by rw [e22]; exact S21.svF ff_66_48 _
                      refine p_ret rfl rfl ?_
                      show Wp (d + 2) 0 0 M_X12_joins 226 [some (.inr (.inr 66)), some (.inl c), some (.inr (.inl (gv h 99 ((gv h 66 48) - 1)))), none, some (.inr (.inl (gv h 99 ((gv h 66 48) - 2)))), none] [] y22 _
                      refine p_ret rfl rfl ?_
                      -- leaf 10: answer [] h=y22 e22,e21,e1
                      first | (exfalso; omega) | (refine fin _ _ (by rw [e22, e21, e1]) ?_ S22; rw [P1, P2] at *; subst c2; first | rfl | (rw [an64_01 (h01 (by decide)).1 (h01 (by decide)).2]; rfl) | (unfold jx tcf; simp only [Int.reduceLE, Int.reduceEq, if_true, if_false, Int.reduceNeg, reduceIte]; split <;> omega))
                    · have c2_9 := c2
                      refine ⟨fun c2 => ?_, fun c2 => ?_⟩
                      · show Wp (d + 2) 0 0 M_X12_joins 150 [some (.inr (.inr 66)), some (.inl c), some (.inr (.inl (gv h 99 ((gv h 66 48) - 1)))), none, some (.inr (.inl (gv h 99 ((gv h 66 48) - 2)))), none] [] y1 _
                        refine p_aload 151 rfl rfl rfl ?_
                        refine p_lload 153 rfl rfl rfl ?_
                        refine p_lload 154 rfl rfl rfl ?_
                        refine p_lc_ge 155 158 162 rfl rfl rfl rfl rfl (fun c23 => ?_) (fun c23 => ?_)
                        · skip
                          refine p_lconst 163 rfl rfl ?_
                          refine p_callv (le := [some (.inr (.inr 66)), some (.inr (.inl 0)), none]) (as := [.inr (.inr 66), .inr (.inl 0)]) (rest := []) 166 0 0 0 0 rfl rfl (Nat.le_of_ble_eq_true rfl) rfl (Nat.le_of_ble_eq_true rfl) rfl rfl (Nat.le_of_ble_eq_true rfl) rfl (Nat.le_of_ble_eq_true rfl) rfl (Nat.le_refl _) (Nat.le_refl _) rfl rfl (tg_66 S1) ?_
                          refine p_aload 1 rfl rfl rfl ?_
                          refine p_getfr (j := 47) (z := 99) 4 rfl rfl rfl (tg_66 S1) rfl (fi_66_47 S1) ?_
                          refine p_aload 5 rfl rfl rfl ?_
                          refine p_getfi (j := 48) (z := (gv h 66 48) - 2) 8 rfl rfl rfl (tg_66 S1) rfl (by rw [e1]; exact sv_eq _ _ _ _) ?_
                          refine p_lload 9 rfl rfl rfl ?_
                          refine p_last (w := 800) 10 rfl rfl (by decide) (tg_99 S1) (ln_99 S1) (by omega) (by omega) ?_
                          refine p_nmh (fun y24 e24 => ?_)
                          have S24 : Shape y24 := by rw [e24]; exact S1.svA fa_99 _ _
                          refine p_aload 11 rfl rfl rfl ?_
                          refine p_dup 12 rfl rfl nl_r ?_
                          refine p_getfi (j := 48) (z := (gv h 66 48) - 2) 15 rfl rfl rfl (tg_66 S24) rfl (by rw [e24, sv_ne (by decide)]; rw [e1]; exact sv_eq _ _ _ _) ?_
                          refine p_const 16 rfl rfl ?_
                          refine p_iadd (z := ((gv h 66 48) - 2) + 1) 17 rfl rfl (w32_id ⟨(by omega), (by omega)⟩) ?_
                          refine p_putfi (j := 48) 20 rfl rfl rfl (fun z => absurd z (by decide)) (tg_66 S24) rfl ?_
                          refine p_nmh (fun y25 e25 => ?_)
                          have S25 : Shape y25 := by rw [e25]; exact S24.svF ff_66_48 _
                          refine p_ret rfl rfl ?_
                          show Wp (d + 2) 0 0 M_X12_joins 166 [some (.inr (.inr 66)), some (.inl c), some (.inr (.inl (gv h 99 ((gv h 66 48) - 1)))), none, some (.inr (.inl (gv h 99 ((gv h 66 48) - 2)))), none] [] y25 _
                          refine p_goto 226 rfl rfl ?_
                          refine p_ret rfl rfl ?_
                          -- leaf 11: answer [] h=y25 e25,e24,e1
                          first | (exfalso; omega) | (refine fin _ _ (by rw [e25, e24, e1]) ?_ S25; rw [P1, P2] at *; subst c2; first | rfl | (rw [an64_01 (h01 (by decide)).1 (h01 (by decide)).2]; rfl) | (unfold jx tcf; simp only [Int.reduceLE, Int.reduceEq, if_true, if_false, Int.reduceNeg, reduceIte]; split <;> omega))
                        · skip
                          refine p_lconst 159 rfl rfl ?_
                          refine p_goto 163 rfl rfl ?_
                          refine p_callv (le := [some (.inr (.inr 66)), some (.inr (.inl 1)), none]) (as := [.inr (.inr 66), .inr (.inl 1)]) (rest := []) 166 0 0 0 0 rfl rfl (Nat.le_of_ble_eq_true rfl) rfl (Nat.le_of_ble_eq_true rfl) rfl rfl (Nat.le_of_ble_eq_true rfl) rfl (Nat.le_of_ble_eq_true rfl) rfl (Nat.le_refl _) (Nat.le_refl _) rfl rfl (tg_66 S1) ?_
                          refine p_aload 1 rfl rfl rfl ?_
                          refine p_getfr (j := 47) (z := 99) 4 rfl rfl rfl (tg_66 S1) rfl (fi_66_47 S1) ?_
                          refine p_aload 5 rfl rfl rfl ?_
                          refine p_getfi (j := 48) (z := (gv h 66 48) - 2) 8 rfl rfl rfl (tg_66 S1) rfl (by rw [e1]; exact sv_eq _ _ _ _) ?_
                          refine p_lload 9 rfl rfl rfl ?_
                          refine p_last (w := 800) 10 rfl rfl (by decide) (tg_99 S1) (ln_99 S1) (by omega) (by omega) ?_
                          refine p_nmh (fun y26 e26 => ?_)
                          have S26 : Shape y26 := by rw [e26]; exact S1.svA fa_99 _ _
                          refine p_aload 11 rfl rfl rfl ?_
                          refine p_dup 12 rfl rfl nl_r ?_
                          refine p_getfi (j := 48) (z := (gv h 66 48) - 2) 15 rfl rfl rfl (tg_66 S26) rfl (by rw [e26, sv_ne (by decide)]; rw [e1]; exact sv_eq _ _ _ _) ?_
                          refine p_const 16 rfl rfl ?_
                          refine p_iadd (z := ((gv h 66 48) - 2) + 1) 17 rfl rfl (w32_id ⟨(by omega), (by omega)⟩) ?_
                          refine p_putfi (j := 48) 20 rfl rfl rfl (fun z => absurd z (by decide)) (tg_66 S26) rfl ?_
                          refine p_nmh (fun y27 e27 => ?_)
                          have S27 : Shape y27 := by rw [e27]; exact S26.svF ff_66_48 _
                          refine p_ret rfl rfl ?_
                          show Wp (d + 2) 0 0 M_X12_joins 166 [some (.inr (.inr 66)), some (.inl c), some (.inr (.inl (gv h 99 ((gv h 66 48) - 1)))), none, some (.inr (.inl (gv h 99 ((gv h 66 48) - 2)))), none] [] y27 _
                          refine p_goto 226 rfl rfl ?_
                          refine p_ret rfl rfl ?_
                          -- leaf 12: answer [] h=y27 e27,e26,e1
                          first | (exfalso; omega) | (refine fin _ _ (by rw [e27, e26, e1]) ?_ S27; rw [P1, P2] at *; subst c2; first | rfl | (rw [an64_01 (h01 (by decide)).1 (h01 (by decide)).2]; rfl) | (unfold jx tcf; simp only [Int.reduceLE, Int.reduceEq, if_true, if_false, Int.reduceNeg, reduceIte]; split <;> omega))
                      · have c2_10 := c2
                        refine ⟨fun c2 => ?_, fun c2 => ?_⟩
                        · show Wp (d + 2) 0 0 M_X12_joins 169 [some (.inr (.inr 66)), some (.inl c), some (.inr (.inl (gv h 99 ((gv h 66 48) - 1)))), none, some (.inr (.inl (gv h 99 ((gv h 66 48) - 2)))), none] [] y1 _
                          refine p_aload 170 rfl rfl rfl ?_
                          refine p_lload 172 rfl rfl rfl ?_
                          refine p_lload 173 rfl rfl rfl ?_
                          refine p_lc_le 174 177 181 rfl rfl rfl rfl rfl (fun c28 => ?_) (fun c28 => ?_)
                          · skip
                            refine p_lconst 182 rfl rfl ?_
                            refine p_callv (le := [some (.inr (.inr 66)), some (.inr (.inl 0)), none]) (as := [.inr (.inr 66), .inr (.inl 0)]) (rest := []) 185 0 0 0 0 rfl rfl (Nat.le_of_ble_eq_true rfl) rfl (Nat.le_of_ble_eq_true rfl) rfl rfl (Nat.le_of_ble_eq_true rfl) rfl (Nat.le_of_ble_eq_true rfl) rfl (Nat.le_refl _) (Nat.le_refl _) rfl rfl (tg_66 S1) ?_
                            refine p_aload 1 rfl rfl rfl ?_
                            refine p_getfr (j := 47) (z := 99) 4 rfl rfl rfl (tg_66 S1) rfl (fi_66_47 S1) ?_
                            refine p_aload 5 rfl rfl rfl ?_
                            refine p_getfi (j := 48) (z := (gv h 66 48) - 2) 8 rfl rfl rfl (tg_66 S1) rfl (by rw [e1]; exact sv_eq _ _ _ _) ?_
                            refine p_lload 9 rfl rfl rfl ?_
                            refine p_last (w := 800) 10 rfl rfl (by decide) (tg_99 S1) (ln_99 S1) (by omega) (by omega) ?_
                            refine p_nmh (fun y29 e29 => ?_)
                            have S29 : Shape y29 := by rw [e29]; exact S1.svA fa_99 _ _
                            refine p_aload 11 rfl rfl rfl ?_
                            refine p_dup 12 rfl rfl nl_r ?_
                            refine p_getfi (j := 48) (z := (gv h 66 48) - 2) 15 rfl rfl rfl (tg_66 S29) rfl (by rw [e29, sv_ne (by decide)]; rw [e1]; exact sv_eq _ _ _ _) ?_
                            refine p_const 16 rfl rfl ?_
                            refine p_iadd (z := ((gv h 66 48) - 2) + 1) 17 rfl rfl (w32_id ⟨(by omega), (by omega)⟩) ?_
                            refine p_putfi (j := 48) 20 rfl rfl rfl (fun z => absurd z (by decide)) (tg_66 S29) rfl ?_
                            refine p_nmh (fun y30 e30 => ?_)
                            have S30 : Shape y30 := by rw [e30]; exact S29.svF ff_66_48 _
                            refine p_ret rfl rfl ?_
                            show Wp (d + 2) 0 0 M_X12_joins 185 [some (.inr (.inr 66)), some (.inl c), some (.inr (.inl (gv h 99 ((gv h 66 48) - 1)))), none, some (.inr (.inl (gv h 99 ((gv h 66 48) - 2)))), none] [] y30 _
                            refine p_goto 226 rfl rfl ?_
                            refine p_ret rfl rfl ?_
                            -- leaf 13: answer [] h=y30 e30,e29,e1
                            first | (exfalso; omega) | (refine fin _ _ (by rw [e30, e29, e1]) ?_ S30; rw [P1, P2] at *; subst c2; first | rfl | (rw [an64_01 (h01 (by decide)).1 (h01 (by decide)).2]; rfl) | (unfold jx tcf; simp only [Int.reduceLE, Int.reduceEq, if_true, if_false, Int.reduceNeg, reduceIte]; split <;> omega))
                          · skip
                            refine p_lconst 178 rfl rfl ?_
                            refine p_goto 182 rfl rfl ?_
                            refine p_callv (le := [some (.inr (.inr 66)), some (.inr (.inl 1)), none]) (as := [.inr (.inr 66), .inr (.inl 1)]) (rest := []) 185 0 0 0 0 rfl rfl (Nat.le_of_ble_eq_true rfl) rfl (Nat.le_of_ble_eq_true rfl) rfl rfl (Nat.le_of_ble_eq_true rfl) rfl (Nat.le_of_ble_eq_true rfl) rfl (Nat.le_refl _) (Nat.le_refl _) rfl rfl (tg_66 S1) ?_
                            refine p_aload 1 rfl rfl rfl ?_
                            refine p_getfr (j := 47) (z := 99) 4 rfl rfl rfl (tg_66 S1) rfl (fi_66_47 S1) ?_
                            refine p_aload 5 rfl rfl rfl ?_
                            refine p_getfi (j := 48) (z := (gv h 66 48) - 2) 8 rfl rfl rfl (tg_66 S1) rfl (by rw [e1]; exact sv_eq _ _ _ _) ?_
                            refine p_lload 9 rfl rfl rfl ?_
                            refine p_last (w := 800) 10 rfl rfl (by decide) (tg_99 S1) (ln_99 S1) (by omega) (by omega) ?_
                            refine p_nmh (fun y31 e31 => ?_)
                            have S31 : Shape y31 := by rw [e31]; exact S1.svA fa_99 _ _
                            refine p_aload 11 rfl rfl rfl ?_
                            refine p_dup 12 rfl rfl nl_r ?_
                            refine p_getfi (j := 48) (z := (gv h 66 48) - 2) 15 rfl rfl rfl (tg_66 S31) rfl (by rw [e31, sv_ne (by decide)]; rw [e1]; exact sv_eq _ _ _ _) ?_
                            refine p_const 16 rfl rfl ?_
                            refine p_iadd (z := ((gv h 66 48) - 2) + 1) 17 rfl rfl (w32_id ⟨(by omega), (by omega)⟩) ?_
                            refine p_putfi (j := 48) 20 rfl rfl rfl (fun z => absurd z (by decide)) (tg_66 S31) rfl ?_
                            refine p_nmh (fun y32 e32 => ?_)
                            have S32 : Shape y32 := by rw [e32]; exact S31.svF ff_66_48 _
                            refine p_ret rfl rfl ?_
                            show Wp (d + 2) 0 0 M_X12_joins 185 [some (.inr (.inr 66)), some (.inl c), some (.inr (.inl (gv h 99 ((gv h 66 48) - 1)))), none, some (.inr (.inl (gv h 99 ((gv h 66 48) - 2)))), none] [] y32 _
                            refine p_goto 226 rfl rfl ?_
                            refine p_ret rfl rfl ?_
                            -- leaf 14: answer [] h=y32 e32,e31,e1
                            first | (exfalso; omega) | (refine fin _ _ (by rw [e32, e31, e1]) ?_ S32; rw [P1, P2] at *; subst c2; first | rfl | (rw [an64_01 (h01 (by decide)).1 (h01 (by decide)).2]; rfl) | (unfold jx tcf; simp only [Int.reduceLE, Int.reduceEq, if_true, if_false, Int.reduceNeg, reduceIte]; split <;> omega))
                        · have c2_11 := c2
                          refine ⟨fun c2 => ?_, fun c2 => ?_⟩
                          · show Wp (d + 2) 0 0 M_X12_joins 188 [some (.inr (.inr 66)), some (.inl c), some (.inr (.inl (gv h 99 ((gv h 66 48) - 1)))), none, some (.inr (.inl (gv h 99 ((gv h 66 48) - 2)))), none] [] y1 _
                            refine p_aload 189 rfl rfl rfl ?_
                            refine p_lload 191 rfl rfl rfl ?_
                            refine p_lload 192 rfl rfl rfl ?_
                            refine p_lc_ne 193 196 200 rfl rfl rfl rfl rfl (fun c33 => ?_) (fun c33 => ?_)
                            · skip
                              refine p_lconst 201 rfl rfl ?_
                              refine p_callv (le := [some (.inr (.inr 66)), some (.inr (.inl 0)), none]) (as := [.inr (.inr 66), .inr (.inl 0)]) (rest := []) 204 0 0 0 0 rfl rfl (Nat.le_of_ble_eq_true rfl) rfl (Nat.le_of_ble_eq_true rfl) rfl rfl (Nat.le_of_ble_eq_true rfl) rfl (Nat.le_of_ble_eq_true rfl) rfl (Nat.le_refl _) (Nat.le_refl _) rfl rfl (tg_66 S1) ?_
                              refine p_aload 1 rfl rfl rfl ?_
                              refine p_getfr (j := 47) (z := 99) 4 rfl rfl rfl (tg_66 S1) rfl (fi_66_47 S1) ?_
                              refine p_aload 5 rfl rfl rfl ?_
                              refine p_getfi (j := 48) (z := (gv h 66 48) - 2) 8 rfl rfl rfl (tg_66 S1) rfl (by rw [e1]; exact sv_eq _ _ _ _) ?_
                              refine p_lload 9 rfl rfl rfl ?_
                              refine p_last (w := 800) 10 rfl rfl (by decide) (tg_99 S1) (ln_99 S1) (by omega) (by omega) ?_
                              refine p_nmh (fun y34 e34 => ?_)
                              have S34 : Shape y34 := by rw [e34]; exact S1.svA fa_99 _ _
                              refine p_aload 11 rfl rfl rfl ?_
                              refine p_dup 12 rfl rfl nl_r ?_
                              refine p_getfi (j := 48) (z := (gv h 66 48) - 2) 15 rfl rfl rfl (tg_66 S34) rfl (by rw [e34, sv_ne (by decide)]; rw [e1]; exact sv_eq _ _ _ _) ?_
                              refine p_const 16 rfl rfl ?_
                              refine p_iadd (z := ((gv h 66 48) - 2) + 1) 17 rfl rfl (w32_id ⟨(by omega), (by omega)⟩) ?_
                              refine p_putfi (j := 48) 20 rfl rfl rfl (fun z => absurd z (by decide)) (tg_66 S34) rfl ?_
                              refine p_nmh (fun y35 e35 => ?_)
                              have S35 : Shape y35 := by rw [e35]; exact S34.svF ff_66_48 _
                              refine p_ret rfl rfl ?_
                              show Wp (d + 2) 0 0 M_X12_joins 204 [some (.inr (.inr 66)), some (.inl c), some (.inr (.inl (gv h 99 ((gv h 66 48) - 1)))), none, some (.inr (.inl (gv h 99 ((gv h 66 48) - 2)))), none] [] y35 _
                              refine p_goto 226 rfl rfl ?_
                              refine p_ret rfl rfl ?_
                              -- leaf 15: answer [] h=y35 e35,e34,e1
                              first | (exfalso; omega) | (refine fin _ _ (by rw [e35, e34, e1]) ?_ S35; rw [P1, P2] at *; subst c2; first | rfl | (rw [an64_01 (h01 (by decide)).1 (h01 (by decide)).2]; rfl) | (unfold jx tcf; simp only [Int.reduceLE, Int.reduceEq, if_true, if_false, Int.reduceNeg, reduceIte]; split <;> omega))
                            · skip
                              refine p_lconst 197 rfl rfl ?_
                              refine p_goto 201 rfl rfl ?_
                              refine p_callv (le := [some (.inr (.inr 66)), some (.inr (.inl 1)), none]) (as := [.inr (.inr 66), .inr (.inl 1)]) (rest := []) 204 0 0 0 0 rfl rfl (Nat.le_of_ble_eq_true rfl) rfl (Nat.le_of_ble_eq_true rfl) rfl rfl (Nat.le_of_ble_eq_true rfl) rfl (Nat.le_of_ble_eq_true rfl) rfl (Nat.le_refl _) (Nat.le_refl _) rfl rfl (tg_66 S1) ?_
                              refine p_aload 1 rfl rfl rfl ?_
                              refine p_getfr (j := 47) (z := 99) 4 rfl rfl rfl (tg_66 S1) rfl (fi_66_47 S1) ?_
                              refine p_aload 5 rfl rfl rfl ?_
                              refine p_getfi (j := 48) (z := (gv h 66 48) - 2) 8 rfl rfl rfl (tg_66 S1) rfl (by rw [e1]; exact sv_eq _ _ _ _) ?_
                              refine p_lload 9 rfl rfl rfl ?_
                              refine p_last (w := 800) 10 rfl rfl (by decide) (tg_99 S1) (ln_99 S1) (by omega) (by omega) ?_
                              refine p_nmh (fun y36 e36 => ?_)
                              have S36 : Shape y36 := by rw [e36]; exact S1.svA fa_99 _ _
                              refine p_aload 11 rfl rfl rfl ?_
                              refine p_dup 12 rfl rfl nl_r ?_
                              refine p_getfi (j := 48) (z := (gv h 66 48) - 2) 15 rfl rfl rfl (tg_66 S36) rfl (by rw [e36, sv_ne (by decide)]; rw [e1]; exact sv_eq _ _ _ _) ?_
                              refine p_const 16 rfl rfl ?_
                              refine p_iadd (z := ((gv h 66 48) - 2) + 1) 17 rfl rfl (w32_id ⟨(by omega), (by omega)⟩) ?_
                              refine p_putfi (j := 48) 20 rfl rfl rfl (fun z => absurd z (by decide)) (tg_66 S36) rfl ?_
                              refine p_nmh (fun y37 e37 => ?_)
                              have S37 : Shape y37 := by rw [e37]; exact S36.svF ff_66_48 _
                              refine p_ret rfl rfl ?_
                              show Wp (d + 2) 0 0 M_X12_joins 204 [some (.inr (.inr 66)), some (.inl c), some (.inr (.inl (gv h 99 ((gv h 66 48) - 1)))), none, some (.inr (.inl (gv h 99 ((gv h 66 48) - 2)))), none] [] y37 _
                              refine p_goto 226 rfl rfl ?_
                              refine p_ret rfl rfl ?_
                              -- leaf 16: answer [] h=y37 e37,e36,e1
                              first | (exfalso; omega) | (refine fin _ _ (by rw [e37, e36, e1]) ?_ S37; rw [P1, P2] at *; subst c2; first | rfl | (rw [an64_01 (h01 (by decide)).1 (h01 (by decide)).2]; rfl) | (unfold jx tcf; simp only [Int.reduceLE, Int.reduceEq, if_true, if_false, Int.reduceNeg, reduceIte]; split <;> omega))
                          · have c2_12 := c2
                            refine ⟨fun c2 => ?_, fun c2 => ?_⟩
                            · show Wp (d + 2) 0 0 M_X12_joins 207 [some (.inr (.inr 66)), some (.inl c), some (.inr (.inl (gv h 99 ((gv h 66 48) - 1)))), none, some (.inr (.inl (gv h 99 ((gv h 66 48) - 2)))), none] [] y1 _
                              refine p_aload 208 rfl rfl rfl ?_
                              refine p_lload 210 rfl rfl rfl ?_
                              refine p_lload 211 rfl rfl rfl ?_
                              refine p_land (z := an64 (gv h 99 ((gv h 66 48) - 2)) (gv h 99 ((gv h 66 48) - 1))) 212 rfl rfl rfl ?_
                              refine p_callv (le := [some (.inr (.inr 66)), some (.inr (.inl (an64 (gv h 99 ((gv h 66 48) - 2)) (gv h 99 ((gv h 66 48) - 1))))), none]) (as := [.inr (.inr 66), .inr (.inl (an64 (gv h 99 ((gv h 66 48) - 2)) (gv h 99 ((gv h 66 48) - 1))))]) (rest := []) 215 0 0 0 0 rfl rfl (Nat.le_of_ble_eq_true rfl) rfl (Nat.le_of_ble_eq_true rfl) rfl rfl (Nat.le_of_ble_eq_true rfl) rfl (Nat.le_of_ble_eq_true rfl) rfl (Nat.le_refl _) (Nat.le_refl _) rfl rfl (tg_66 S1) ?_
                              refine p_aload 1 rfl rfl rfl ?_
                              refine p_getfr (j := 47) (z := 99) 4 rfl rfl rfl (tg_66 S1) rfl (fi_66_47 S1) ?_
                              refine p_aload 5 rfl rfl rfl ?_
                              refine p_getfi (j := 48) (z := (gv h 66 48) - 2) 8 rfl rfl rfl (tg_66 S1) rfl (by rw [e1]; exact sv_eq _ _ _ _) ?_
                              refine p_lload 9 rfl rfl rfl ?_
                              refine p_last (w := 800) 10 rfl rfl (by decide) (tg_99 S1) (ln_99 S1) (by omega) (by omega) ?_
                              refine p_nmh (fun y38 e38 => ?_)
                              have S38 : Shape y38 := by rw [e38]; exact S1.svA fa_99 _ _
                              refine p_aload 11 rfl rfl rfl ?_
                              refine p_dup 12 rfl rfl nl_r ?_
                              refine p_getfi (j := 48) (z := (gv h 66 48) - 2) 15 rfl rfl rfl (tg_66 S38) rfl (by rw [e38, sv_ne (by decide)]; rw [e1]; exact sv_eq _ _ _ _) ?_
                              refine p_const 16 rfl rfl ?_
                              refine p_iadd (z := ((gv h 66 48) - 2) + 1) 17 rfl rfl (w32_id ⟨(by omega), (by omega)⟩) ?_
                              refine p_putfi (j := 48) 20 rfl rfl rfl (fun z => absurd z (by decide)) (tg_66 S38) rfl ?_
                              refine p_nmh (fun y39 e39 => ?_)
                              have S39 : Shape y39 := by rw [e39]; exact S38.svF ff_66_48 _
                              refine p_ret rfl rfl ?_
                              show Wp (d + 2) 0 0 M_X12_joins 215 [some (.inr (.inr 66)), some (.inl c), some (.inr (.inl (gv h 99 ((gv h 66 48) - 1)))), none, some (.inr (.inl (gv h 99 ((gv h 66 48) - 2)))), none] [] y39 _
                              refine p_goto 226 rfl rfl ?_
                              refine p_ret rfl rfl ?_
                              -- leaf 17: answer [] h=y39 e39,e38,e1
                              first | (exfalso; omega) | (refine fin _ _ (by rw [e39, e38, e1]) ?_ S39; rw [P1, P2] at *; subst c2; first | rfl | (rw [an64_01 (h01 (by decide)).1 (h01 (by decide)).2]; rfl) | (unfold jx tcf; simp only [Int.reduceLE, Int.reduceEq, if_true, if_false, Int.reduceNeg, reduceIte]; split <;> omega))
                            · have c2_13 := c2
                              show Wp (d + 2) 0 0 M_X12_joins 218 [some (.inr (.inr 66)), some (.inl c), some (.inr (.inl (gv h 99 ((gv h 66 48) - 1)))), none, some (.inr (.inl (gv h 99 ((gv h 66 48) - 2)))), none] [] y1 _
                              refine p_aload 219 rfl rfl rfl ?_
                              refine p_lload 221 rfl rfl rfl ?_
                              refine p_lload 222 rfl rfl rfl ?_
                              refine p_lor (z := or64 (gv h 99 ((gv h 66 48) - 2)) (gv h 99 ((gv h 66 48) - 1))) 223 rfl rfl rfl ?_
                              refine p_callv (le := [some (.inr (.inr 66)), some (.inr (.inl (or64 (gv h 99 ((gv h 66 48) - 2)) (gv h 99 ((gv h 66 48) - 1))))), none]) (as := [.inr (.inr 66), .inr (.inl (or64 (gv h 99 ((gv h 66 48) - 2)) (gv h 99 ((gv h 66 48) - 1))))]) (rest := []) 226 0 0 0 0 rfl rfl (Nat.le_of_ble_eq_true rfl) rfl (Nat.le_of_ble_eq_true rfl) rfl rfl (Nat.le_of_ble_eq_true rfl) rfl (Nat.le_of_ble_eq_true rfl) rfl (Nat.le_refl _) (Nat.le_refl _) rfl rfl (tg_66 S1) ?_
                              refine p_aload 1 rfl rfl rfl ?_
                              refine p_getfr (j := 47) (z := 99) 4 rfl rfl rfl (tg_66 S1) rfl (fi_66_47 S1) ?_
                              refine p_aload 5 rfl rfl rfl ?_
                              refine p_getfi (j := 48) (z := (gv h 66 48) - 2) 8 rfl rfl rfl (tg_66 S1) rfl (by rw [e1]; exact sv_eq _ _ _ _) ?_
                              refine p_lload 9 rfl rfl rfl ?_
                              refine p_last (w := 800) 10 rfl rfl (by decide) (tg_99 S1) (ln_99 S1) (by omega) (by omega) ?_
                              refine p_nmh (fun y40 e40 => ?_)
                              have S40 : Shape y40 := by rw [e40]; exact S1.svA fa_99 _ _
                              refine p_aload 11 rfl rfl rfl ?_
                              refine p_dup 12 rfl rfl nl_r ?_
                              refine p_getfi (j := 48) (z := (gv h 66 48) - 2) 15 rfl rfl rfl (tg_66 S40) rfl (by rw [e40, sv_ne (by decide)]; rw [e1]; exact sv_eq _ _ _ _) ?_
                              refine p_const 16 rfl rfl ?_
                              refine p_iadd (z := ((gv h 66 48) - 2) + 1) 17 rfl rfl (w32_id ⟨(by omega), (by omega)⟩) ?_
                              refine p_putfi (j := 48) 20 rfl rfl rfl (fun z => absurd z (by decide)) (tg_66 S40) rfl ?_
                              refine p_nmh (fun y41 e41 => ?_)
                              have S41 : Shape y41 := by rw [e41]; exact S40.svF ff_66_48 _
                              refine p_ret rfl rfl ?_
                              show Wp (d + 2) 0 0 M_X12_joins 226 [some (.inr (.inr 66)), some (.inl c), some (.inr (.inl (gv h 99 ((gv h 66 48) - 1)))), none, some (.inr (.inl (gv h 99 ((gv h 66 48) - 2)))), none] [] y41 _
                              refine p_ret rfl rfl ?_
                              -- leaf 18: answer [] h=y41 e41,e40,e1
                              refine fin _ _ (by rw [e41, e40, e1]) ?_ S41
                              have hc15 : c = 15 := by omega
                              rw [P1, P2, or64_01 (h01 (by omega)).1 (h01 (by omega)).2]; subst hc15; rfl
theorem TyV.b2 {r : List Bool} {v u : Int} {vs : List Int} {ts : List Bool} {c : Int} {ts' : List Bool} (hc : tyc c ts = some ts') (T : TyV ts (v :: u :: vs)) (g : 14 ≤ c ∧ c ≤ 15) : (u = 0 ∨ u = 1) ∧ (v = 0 ∨ v = 1) := by
  rcases tyc_in hc with ⟨g, _⟩ | ⟨g, _⟩ | ⟨g, _⟩ | ⟨_, r, e, _⟩ | ⟨g, _⟩ | ⟨g, _⟩ <;> first | (exfalso; omega) | skip
  subst e
  exact ⟨T.2.1, T.1⟩
theorem m_test_loop {d : Nat} {h : PH} {q : PQ} (b k s t i : Int) (hs : 0 ≤ s ∧ s < 10) (ht : 0 ≤ t ∧ t < 1000) (b0 : 0 ≤ b) (b1 : b ≤ 200) (k0 : 0 ≤ i) (k1 : i < 40) (F : FI h) (V : Int)
    (fr0 : 0 ≤ tf h b i) (to2 : te h b i ≤ 700) (K : ∀ h', Keep mhA h h' → Shape h' → q (some (.inl V)) h') :
    ∀ (c : Nat) (p hh : Int) (ts : List Bool) (st : List Int) (w : Option PV) (h1 : PH), p + c = te h b i → tf h b i ≤ p → Shape h1 → Keep mhA h h1 → tyr (cc h b) c p ts = some [true] → ts.length ≤ 63 → TyV ts st → Pile h1 99 st → (stvs s t (hz h (t + 1).toNat) (cc h b) c p st).headD 0 = V → gv h1 66 48 = st.length →
      Wp (d + 3) 0 0 M_X12_holdsTest 41 [some (.inr (.inr 66)), some (.inl b), some (.inl k), some (.inl s), some (.inl t), some (.inl (40 * b + i)), some (.inl p), w] [] h1 q := by
  have hzi := hz_in F.hn (t + 1).toNat (by omega)
  intro c
  induction c with
  | zero =>
    intro p hh ts st w h1 hp hf S kp ty tl T P hV he
    have ty : ts = [true] := Option.some.inj ty
    subst ty
    match st, T with
    | [v], T =>
      have hv := T.1
      have P1 : gv h1 99 0 = v := P.1
      have hV : v = V := hV
      have ete : gv h 83 (40 * b + i) = te h b i := rfl
      refine p_iload 43 rfl rfl rfl ?_
      refine p_aload 44 rfl rfl rfl ?_
      refine p_getfr (j := 24) (z := 83) 47 rfl rfl rfl (tg_66 S) rfl (fi_66_24 S) ?_
      refine p_iload 49 rfl rfl rfl ?_
      refine p_iald (w := 8040) (z := gv h 83 (40 * b + i)) 50 rfl rfl (tg_83 S) (ln_83 S) (by omega) (by omega) (kp.1 _ _ rfl) ?_
      refine p_ic_ge_t 223 rfl rfl (by omega) ?_
      refine p_aload 224 rfl rfl rfl ?_
      refine p_getfr (j := 47) (z := 99) 227 rfl rfl rfl (tg_66 S) rfl (fi_66_47 S) ?_
      refine p_const 228 rfl rfl ?_
      refine p_lald (w := 800) (z := gv h1 99 0) 229 rfl rfl (tg_99 S) (ln_99 S) (by decide) (by decide) rfl ?_
      refine p_lconst 230 rfl rfl ?_
      refine p_lc_ne 231 234 238 rfl rfl rfl rfl rfl (fun c1 => ?_) (fun c1 => ?_)
      · skip
        refine p_const 239 rfl rfl ?_
        refine p_zret rfl rfl (by decide) ?_
        -- leaf 1: answer [.inl 0] h=h1  kp
        rw [show (0 : Int) = V by omega]; exact K h1 kp S
      · skip
        refine p_const 235 rfl rfl ?_
        refine p_goto 239 rfl rfl ?_
        refine p_zret rfl rfl (by decide) ?_
        -- leaf 2: answer [.inl 1] h=h1  kp
        rw [show (1 : Int) = V by omega]; exact K h1 kp S
  | succ c ih =>
    intro p hh ts st w h1 hp hf S kp ty tl T P hV he
    have ete : gv h 83 (40 * b + i) = te h b i := rfl
    have ecc : gv h 84 (700 * b + p) = cc h b p := rfl
    have sl := T.len
    have hfig := fun i i0 i1 => T.figs P i i0 i1
    unfold tyr at ty
    cases hc : tyc (cc h b p) ts with
    | none => rw [hc] at ty; cases ty
    | some ts' =>
      rw [hc] at ty
      replace ty : (if ts'.length ≤ 63 then tyr (cc h b) c (p + 1) ts' else none) = some [true] := ty
      by_cases l63 : ts'.length ≤ 63
      · rw [if_pos l63] at ty
        have T' := ty_step hc T hs ht hzi
        replace hV : (stvs s t (hz h (t + 1).toNat) (cc h b) c (p + 1) (stv s t (hz h (t + 1).toNat) (cc h b p) st)).headD 0 = V := hV
        have nx : ∀ (y : List Int) (w' : Option PV) (h2 : PH), stv s t (hz h (t + 1).toNat) (cc h b p) st = y → Shape h2 → Keep mhA h h2 → Pile h2 99 y → gv h2 66 48 = y.length →
            Wp (d + 3) 0 0 M_X12_holdsTest 41 [some (.inr (.inr 66)), some (.inl b), some (.inl k), some (.inl s), some (.inl t), some (.inl (40 * b + i)), some (.inl (p + 1)), w'] [] h2 q := by
          intro y w' h2 hy S2 k2 P2 l2
          rw [hy] at T' hV
          exact ih (p + 1) 0 ts' y w' h2 (by omega) (by omega) S2 k2 ty l63 T' P2 hV l2
        have pushd : (((1000 ≤ cc h b p ∧ cc h b p ≤ 10999) ∨ (4 ≤ cc h b p ∧ cc h b p ≤ 7)) ∨ cc h b p = 17) → ∀ (v : Int) (w' : Option PV) (h2 : PH), v = fx s t (hz h (t + 1).toNat) (tcf (cc h b p)) → h2 = sv (sv h1 99 (gv h1 66 48) v) 66 48 (gv h1 66 48 + 1) → Shape h2 →
            Wp (d + 3) 0 0 M_X12_holdsTest 41 [some (.inr (.inr 66)), some (.inl b), some (.inl k), some (.inl s), some (.inl t), some (.inl (40 * b + i)), some (.inl (p + 1)), w'] [] h2 q := by
          intro g v w' h2 hv e S2
          refine nx (v :: st) w' h2 (by rw [stv_fig g, hv]) S2 (by rw [e]; exact (kp.sv rfl _).sv rfl _) ?_ (by rw [e, sv_eq, he]; rfl)
          rw [e, he]
          exact (P.push).of (fun i _ _ => sv_ne (by decide))
        have cs : ((((1000 ≤ cc h b p ∧ cc h b p ≤ 10999) ∨ (4 ≤ cc h b p ∧ cc h b p ≤ 7)) ∨ cc h b p = 17) ∧ st.length ≤ 62) ∨ (cc h b p = 16 ∧ ∃ v vs, st = v :: vs) ∨ (((1 ≤ cc h b p ∧ cc h b p ≤ 3) ∨ (11 ≤ cc h b p ∧ cc h b p ≤ 15)) ∧ ∃ v u vs, st = v :: u :: vs) := by
          rcases tyc_in hc with ⟨g, e⟩ | ⟨g, e⟩ | ⟨g, r, e, _⟩ | ⟨g, r, e, _⟩ | ⟨g, r, e, _⟩ | ⟨g, r, e, _⟩
          · refine Or.inl ⟨Or.inl g, ?_⟩
            rw [e] at l63; have l63 : ts.length + 1 ≤ 63 := l63; omega
          · refine Or.inl ⟨Or.inr g, ?_⟩
            rw [e] at l63; have l63 : ts.length + 1 ≤ 63 := l63; omega
          · refine Or.inr (Or.inl ⟨g, ?_⟩)
            subst e
            match st, T with
            | v :: vs, _ => exact ⟨v, vs, rfl⟩
          all_goals
            refine Or.inr (Or.inr ⟨by omega, ?_⟩)
            subst e
            match st, T with
            | v :: u :: vs, _ => exact ⟨v, u, vs, rfl⟩
        rcases cs with ⟨g2, g3⟩ | ⟨g2, v, vs, rfl⟩ | ⟨g2, v, u, vs, rfl⟩
        · have hw : hz h1 (t + 1).toNat = hz h (t + 1).toNat := hz_congr _ (fun t _ => ⟨kp.1 89 _ rfl, kp.1 90 _ rfl⟩)
          have pu := pushd g2
          refine p_iload 43 rfl rfl rfl ?_
          refine p_aload 44 rfl rfl rfl ?_
          refine p_getfr (j := 24) (z := 83) 47 rfl rfl rfl (tg_66 S) rfl (fi_66_24 S) ?_
          refine p_iload 49 rfl rfl rfl ?_
          refine p_iald (w := 8040) (z := gv h 83 (40 * b + i)) 50 rfl rfl (tg_83 S) (ln_83 S) (by omega) (by omega) (kp.1 _ _ rfl) ?_
          refine p_ic_ge_f 53 rfl rfl (by omega) ?_
          refine p_aload 54 rfl rfl rfl ?_
          refine p_getfr (j := 25) (z := 84) 57 rfl rfl rfl (tg_66 S) rfl (fi_66_25 S) ?_
          refine p_const 60 rfl rfl ?_
          refine p_iload 61 rfl rfl rfl ?_
          refine p_imul (z := 700 * b) 62 rfl rfl (w32_id ⟨(by omega), (by omega)⟩) ?_
          refine p_iload 64 rfl rfl rfl ?_
          refine p_iadd (z := (700 * b) + p) 65 rfl rfl (w32_id ⟨(by omega), (by omega)⟩) ?_
          refine p_iald (w := 140700) (z := gv h 84 ((700 * b) + p)) 66 rfl rfl (tg_84 S) (ln_84 S) (by omega) (by omega) (kp.1 _ _ rfl) ?_
          refine p_istore (ls' := [some (.inr (.inr 66)), some (.inl b), some (.inl k), some (.inl s), some (.inl t), some (.inl (40 * b + i)), some (.inl p), some (.inl (gv h 84 ((700 * b) + p)))]) 68 rfl rfl (Nat.le_of_ble_eq_true rfl) rfl ?_
          refine p_iload 70 rfl rfl rfl ?_
          refine p_const 73 rfl rfl ?_
          refine p_ic_lt 76 90 rfl rfl rfl (fun c1 => ?_) (fun c1 => ?_)
          · skip
            refine p_iload 92 rfl rfl rfl ?_
            refine p_const 93 rfl rfl ?_
            refine p_ic_ne 96 105 rfl rfl rfl (fun c2 => ?_) (fun c2 => ?_)
            · skip
              refine p_iload 107 rfl rfl rfl ?_
              refine p_const 108 rfl rfl ?_
              refine p_ic_ne 111 124 rfl rfl rfl (fun c3 => ?_) (fun c3 => ?_)
              · skip
                refine p_iload 126 rfl rfl rfl ?_
                refine p_const 128 rfl rfl ?_
                refine p_ic_ne 131 141 rfl rfl rfl (fun c4 => ?_) (fun c4 => ?_)
                · skip
                  refine p_iload 143 rfl rfl rfl ?_
                  refine p_const 145 rfl rfl ?_
                  refine p_ic_ne 148 162 rfl rfl rfl (fun c5 => ?_) (fun c5 => ?_)
                  · skip
                    refine p_iload 164 rfl rfl rfl ?_
                    refine p_const 166 rfl rfl ?_
                    refine p_ic_ne_f 169 rfl rfl (by omega) ?_
                    refine p_aload 170 rfl rfl rfl ?_
                    refine p_lconst 171 rfl rfl ?_
                    refine p_callv (le := [some (.inr (.inr 66)), some (.inr (.inl 1)), none]) (as := [.inr (.inr 66), .inr (.inl 1)]) (rest := []) 174 0 0 0 0 rfl rfl (Nat.le_of_ble_eq_true rfl) rfl (Nat.le_of_ble_eq_true rfl) rfl rfl (Nat.le_of_ble_eq_true rfl) rfl (Nat.le_of_ble_eq_true rfl) rfl (Nat.le_refl _) (Nat.le_refl _) rfl rfl (tg_66 S) ?_
                    refine p_aload 1 rfl rfl rfl ?_
                    refine p_getfr (j := 47) (z := 99) 4 rfl rfl rfl (tg_66 S) rfl (fi_66_47 S) ?_
                    refine p_aload 5 rfl rfl rfl ?_
                    refine p_getfi (j := 48) (z := gv h1 66 48) 8 rfl rfl rfl (tg_66 S) rfl rfl ?_
                    refine p_lload 9 rfl rfl rfl ?_
                    refine p_last (w := 800) 10 rfl rfl (by decide) (tg_99 S) (ln_99 S) (by omega) (by omega) ?_
                    refine p_nmh (fun y6 e6 => ?_)
                    have S6 : Shape y6 := by rw [e6]; exact S.svA fa_99 _ _
                    have kp6 : Keep mhA h y6 := by rw [e6]; exact kp.sv rfl _
                    refine p_aload 11 rfl rfl rfl ?_
                    refine p_dup 12 rfl rfl nl_r ?_
                    refine p_getfi (j := 48) (z := gv h1 66 48) 15 rfl rfl rfl (tg_66 S6) rfl (by rw [e6, sv_ne (by decide)]) ?_
                    refine p_const 16 rfl rfl ?_
                    refine p_iadd (z := (gv h1 66 48) + 1) 17 rfl rfl (w32_id ⟨(by omega), (by omega)⟩) ?_
                    refine p_putfi (j := 48) 20 rfl rfl rfl (fun z => absurd z (by decide)) (tg_66 S6) rfl ?_
                    refine p_nmh (fun y7 e7 => ?_)
                    have S7 : Shape y7 := by rw [e7]; exact S6.svF ff_66_48 _
                    have kp7 : Keep mhA h y7 := by rw [e7]; exact kp6.sv rfl _
                    refine p_ret rfl rfl ?_
                    show Wp (d + 3) 0 0 M_X12_holdsTest 174 [some (.inr (.inr 66)), some (.inl b), some (.inl k), some (.inl s), some (.inl t), some (.inl (40 * b + i)), some (.inl p), some (.inl (gv h 84 ((700 * b) + p)))] [] y7 _
                    refine p_goto 217 rfl rfl ?_
                    refine p_iinc (y := p + 1) (ls' := [some (.inr (.inr 66)), some (.inl b), some (.inl k), some (.inl s), some (.inl t), some (.inl (40 * b + i)), some (.inl (p + 1)), some (.inl (gv h 84 ((700 * b) + p)))]) 220 rfl rfl rfl (w32_id ⟨(by omega), (by omega)⟩) rfl ?_
                    refine p_goto 41 rfl rfl ?_
                    -- leaf 1: loop 41 [some (.inr (.inr 66)), some (.inl b), some (.inl k), some (.inl s), some (.inl t), some (.inl (40 * b + i)), some (.inl (p + 1)), some (.inl (gv h 84 ((700 * b) + p)))] st=[] h=y7 e7,e6 kp7
                    first | (exfalso; omega) | (refine pu _ _ _ ?_ (by rw [e7, e6]) S7; first | (rw [hw, show cc h b p = 7 by omega]; rfl) | (rw [show cc h b p = 4 by omega]; rfl) | (rw [show cc h b p = 5 by omega]; rfl) | (rw [show cc h b p = 6 by omega]; rfl) | (rw [show cc h b p = 17 by omega]; rfl) | (rw [tcf_num (show 1000 ≤ cc h b p by omega)]; unfold fx; (repeat' split) <;> omega))
                  · skip
                    refine p_aload 149 rfl rfl rfl ?_
                    refine p_aload 150 rfl rfl rfl ?_
                    refine p_iload 152 rfl rfl rfl ?_
                    refine p_callv (le := [some (.inr (.inr 66)), some (.inl t), none]) (as := [.inr (.inr 66), .inl t]) (rest := [.inr (.inr 66)]) 155 0 0 0 0 rfl rfl (Nat.le_of_ble_eq_true rfl) rfl (Nat.le_of_ble_eq_true rfl) rfl rfl (Nat.le_of_ble_eq_true rfl) rfl (Nat.le_of_ble_eq_true rfl) rfl (Nat.le_refl _) (Nat.le_refl _) rfl rfl (tg_66 S) ?_
                    refine m_hazeAt S t (by omega) (by omega) ?_
                    show Wp (d + 3) 0 0 M_X12_holdsTest 155 [some (.inr (.inr 66)), some (.inl b), some (.inl k), some (.inl s), some (.inl t), some (.inl (40 * b + i)), some (.inl p), some (.inl (gv h 84 ((700 * b) + p)))] [.inl (hz h1 (t + 1).toNat), .inr (.inr 66)] h1 _
                    refine p_i2l 156 rfl rfl ?_
                    refine p_callv (le := [some (.inr (.inr 66)), some (.inr (.inl (hz h1 (t + 1).toNat))), none]) (as := [.inr (.inr 66), .inr (.inl (hz h1 (t + 1).toNat))]) (rest := []) 159 0 0 0 0 rfl rfl (Nat.le_of_ble_eq_true rfl) rfl (Nat.le_of_ble_eq_true rfl) rfl rfl (Nat.le_of_ble_eq_true rfl) rfl (Nat.le_of_ble_eq_true rfl) rfl (Nat.le_refl _) (Nat.le_refl _) rfl rfl (tg_66 S) ?_
                    refine p_aload 1 rfl rfl rfl ?_
                    refine p_getfr (j := 47) (z := 99) 4 rfl rfl rfl (tg_66 S) rfl (fi_66_47 S) ?_
                    refine p_aload 5 rfl rfl rfl ?_
                    refine p_getfi (j := 48) (z := gv h1 66 48) 8 rfl rfl rfl (tg_66 S) rfl rfl ?_
                    refine p_lload 9 rfl rfl rfl ?_
                    refine p_last (w := 800) 10 rfl rfl (by decide) (tg_99 S) (ln_99 S) (by omega) (by omega) ?_
                    refine p_nmh (fun y8 e8 => ?_)
                    have S8 : Shape y8 := by rw [e8]; exact S.svA fa_99 _ _
                    have kp8 : Keep mhA h y8 := by rw [e8]; exact kp.sv rfl _
                    refine p_aload 11 rfl rfl rfl ?_
                    refine p_dup 12 rfl rfl nl_r ?_
                    refine p_getfi (j := 48) (z := gv h1 66 48) 15 rfl rfl rfl (tg_66 S8) rfl (by rw [e8, sv_ne (by decide)]) ?_
                    refine p_const 16 rfl rfl ?_
                    refine p_iadd (z := (gv h1 66 48) + 1) 17 rfl rfl (w32_id ⟨(by omega), (by omega)⟩) ?_
                    refine p_putfi (j := 48) 20 rfl rfl rfl (fun z => absurd z (by decide)) (tg_66 S8) rfl ?_
                    refine p_nmh (fun y9 e9 => ?_)
                    have S9 : Shape y9 := by rw [e9]; exact S8.svF ff_66_48 _
                    have kp9 : Keep mhA h y9 := by rw [e9]; exact kp8.sv rfl _
                    refine p_ret rfl rfl ?_
                    show Wp (d + 3) 0 0 M_X12_holdsTest 159 [some (.inr (.inr 66)), some (.inl b), some (.inl k), some (.inl s), some (.inl t), some (.inl (40 * b + i)), some (.inl p), some (.inl (gv h 84 ((700 * b) + p)))] [] y9 _
                    refine p_goto 217 rfl rfl ?_
                    refine p_iinc (y := p + 1) (ls' := [some (.inr (.inr 66)), some (.inl b), some (.inl k), some (.inl s), some (.inl t), some (.inl (40 * b + i)), some (.inl (p + 1)), some (.inl (gv h 84 ((700 * b) + p)))]) 220 rfl rfl rfl (w32_id ⟨(by omega), (by omega)⟩) rfl ?_
                    refine p_goto 41 rfl rfl ?_
                    -- leaf 2: loop 41 [some (.inr (.inr 66)), some (.inl b), some (.inl k), some (.inl s), some (.inl t), some (.inl (40 * b + i)), some (.inl (p + 1)), some (.inl (gv h 84 ((700 * b) + p)))] st=[] h=y9 e9,e8 kp9
                    first | (exfalso; omega) | (refine pu _ _ _ ?_ (by rw [e9, e8]) S9; first | (rw [hw, show cc h b p = 7 by omega]; rfl) | (rw [show cc h b p = 4 by omega]; rfl) | (rw [show cc h b p = 5 by omega]; rfl) | (rw [show cc h b p = 6 by omega]; rfl) | (rw [show cc h b p = 17 by omega]; rfl) | (rw [tcf_num (show 1000 ≤ cc h b p by omega)]; unfold fx; (repeat' split) <;> omega))
                · skip
                  refine p_aload 132 rfl rfl rfl ?_
                  refine p_iload 134 rfl rfl rfl ?_
                  refine p_i2l 135 rfl rfl ?_
                  refine p_callv (le := [some (.inr (.inr 66)), some (.inr (.inl t)), none]) (as := [.inr (.inr 66), .inr (.inl t)]) (rest := []) 138 0 0 0 0 rfl rfl (Nat.le_of_ble_eq_true rfl) rfl (Nat.le_of_ble_eq_true rfl) rfl rfl (Nat.le_of_ble_eq_true rfl) rfl (Nat.le_of_ble_eq_true rfl) rfl (Nat.le_refl _) (Nat.le_refl _) rfl rfl (tg_66 S) ?_
                  refine p_aload 1 rfl rfl rfl ?_
                  refine p_getfr (j := 47) (z := 99) 4 rfl rfl rfl (tg_66 S) rfl (fi_66_47 S) ?_
                  refine p_aload 5 rfl rfl rfl ?_
                  refine p_getfi (j := 48) (z := gv h1 66 48) 8 rfl rfl rfl (tg_66 S) rfl rfl ?_
                  refine p_lload 9 rfl rfl rfl ?_
                  refine p_last (w := 800) 10 rfl rfl (by decide) (tg_99 S) (ln_99 S) (by omega) (by omega) ?_
                  refine p_nmh (fun y10 e10 => ?_)
                  have S10 : Shape y10 := by rw [e10]; exact S.svA fa_99 _ _
                  have kp10 : Keep mhA h y10 := by rw [e10]; exact kp.sv rfl _
                  refine p_aload 11 rfl rfl rfl ?_
                  refine p_dup 12 rfl rfl nl_r ?_
                  refine p_getfi (j := 48) (z := gv h1 66 48) 15 rfl rfl rfl (tg_66 S10) rfl (by rw [e10, sv_ne (by decide)]) ?_
                  refine p_const 16 rfl rfl ?_
                  refine p_iadd (z := (gv h1 66 48) + 1) 17 rfl rfl (w32_id ⟨(by omega), (by omega)⟩) ?_
                  refine p_putfi (j := 48) 20 rfl rfl rfl (fun z => absurd z (by decide)) (tg_66 S10) rfl ?_
                  refine p_nmh (fun y11 e11 => ?_)
                  have S11 : Shape y11 := by rw [e11]; exact S10.svF ff_66_48 _
                  have kp11 : Keep mhA h y11 := by rw [e11]; exact kp10.sv rfl _
                  refine p_ret rfl rfl ?_
                  show Wp (d + 3) 0 0 M_X12_holdsTest 138 [some (.inr (.inr 66)), some (.inl b), some (.inl k), some (.inl s), some (.inl t), some (.inl (40 * b + i)), some (.inl p), some (.inl (gv h 84 ((700 * b) + p)))] [] y11 _
                  refine p_goto 217 rfl rfl ?_
                  refine p_iinc (y := p + 1) (ls' := [some (.inr (.inr 66)), some (.inl b), some (.inl k), some (.inl s), some (.inl t), some (.inl (40 * b + i)), some (.inl (p + 1)), some (.inl (gv h 84 ((700 * b) + p)))]) 220 rfl rfl rfl (w32_id ⟨(by omega), (by omega)⟩) rfl ?_
                  refine p_goto 41 rfl rfl ?_
                  -- leaf 3: loop 41 [some (.inr (.inr 66)), some (.inl b), some (.inl k), some (.inl s), some (.inl t), some (.inl (40 * b + i)), some (.inl (p + 1)), some (.inl (gv h 84 ((700 * b) + p)))] st=[] h=y11 e11,e10 kp11
                  first | (exfalso; omega) | (refine pu _ _ _ ?_ (by rw [e11, e10]) S11; first | (rw [hw, show cc h b p = 7 by omega]; rfl) | (rw [show cc h b p = 4 by omega]; rfl) | (rw [show cc h b p = 5 by omega]; rfl) | (rw [show cc h b p = 6 by omega]; rfl) | (rw [show cc h b p = 17 by omega]; rfl) | (rw [tcf_num (show 1000 ≤ cc h b p by omega)]; unfold fx; (repeat' split) <;> omega))
              · skip
                refine p_aload 112 rfl rfl rfl ?_
                refine p_iload 114 rfl rfl rfl ?_
                refine p_const 116 rfl rfl ?_
                refine p_idiv (z := t / 60) 117 rfl rfl (by decide) (dv32_id (by omega) (by omega) (by omega)) ?_
                refine p_i2l 118 rfl rfl ?_
                refine p_callv (le := [some (.inr (.inr 66)), some (.inr (.inl (t / 60))), none]) (as := [.inr (.inr 66), .inr (.inl (t / 60))]) (rest := []) 121 0 0 0 0 rfl rfl (Nat.le_of_ble_eq_true rfl) rfl (Nat.le_of_ble_eq_true rfl) rfl rfl (Nat.le_of_ble_eq_true rfl) rfl (Nat.le_of_ble_eq_true rfl) rfl (Nat.le_refl _) (Nat.le_refl _) rfl rfl (tg_66 S) ?_
                refine p_aload 1 rfl rfl rfl ?_
                refine p_getfr (j := 47) (z := 99) 4 rfl rfl rfl (tg_66 S) rfl (fi_66_47 S) ?_
                refine p_aload 5 rfl rfl rfl ?_
                refine p_getfi (j := 48) (z := gv h1 66 48) 8 rfl rfl rfl (tg_66 S) rfl rfl ?_
                refine p_lload 9 rfl rfl rfl ?_
                refine p_last (w := 800) 10 rfl rfl (by decide) (tg_99 S) (ln_99 S) (by omega) (by omega) ?_
                refine p_nmh (fun y12 e12 => ?_)
                have S12 : Shape y12 := by rw [e12]; exact S.svA fa_99 _ _
                have kp12 : Keep mhA h y12 := by rw [e12]; exact kp.sv rfl _
                refine p_aload 11 rfl rfl rfl ?_
                refine p_dup 12 rfl rfl nl_r ?_
                refine p_getfi (j := 48) (z := gv h1 66 48) 15 rfl rfl rfl (tg_66 S12) rfl (by rw [e12, sv_ne (by decide)]) ?_
                refine p_const 16 rfl rfl ?_
                refine p_iadd (z := (gv h1 66 48) + 1) 17 rfl rfl (w32_id ⟨(by omega), (by omega)⟩) ?_
                refine p_putfi (j := 48) 20 rfl rfl rfl (fun z => absurd z (by decide)) (tg_66 S12) rfl ?_
                refine p_nmh (fun y13 e13 => ?_)
                have S13 : Shape y13 := by rw [e13]; exact S12.svF ff_66_48 _
                have kp13 : Keep mhA h y13 := by rw [e13]; exact kp12.sv rfl _
                refine p_ret rfl rfl ?_
                show Wp (d + 3) 0 0 M_X12_holdsTest 121 [some (.inr (.inr 66)), some (.inl b), some (.inl k), some (.inl s), some (.inl t), some (.inl (40 * b + i)), some (.inl p), some (.inl (gv h 84 ((700 * b) + p)))] [] y13 _
                refine p_goto 217 rfl rfl ?_
                refine p_iinc (y := p + 1) (ls' := [some (.inr (.inr 66)), some (.inl b), some (.inl k), some (.inl s), some (.inl t), some (.inl (40 * b + i)), some (.inl (p + 1)), some (.inl (gv h 84 ((700 * b) + p)))]) 220 rfl rfl rfl (w32_id ⟨(by omega), (by omega)⟩) rfl ?_
                refine p_goto 41 rfl rfl ?_
                -- leaf 4: loop 41 [some (.inr (.inr 66)), some (.inl b), some (.inl k), some (.inl s), some (.inl t), some (.inl (40 * b + i)), some (.inl (p + 1)), some (.inl (gv h 84 ((700 * b) + p)))] st=[] h=y13 e13,e12 kp13
                first | (exfalso; omega) | (refine pu _ _ _ ?_ (by rw [e13, e12]) S13; first | (rw [hw, show cc h b p = 7 by omega]; rfl) | (rw [show cc h b p = 4 by omega]; rfl) | (rw [show cc h b p = 5 by omega]; rfl) | (rw [show cc h b p = 6 by omega]; rfl) | (rw [show cc h b p = 17 by omega]; rfl) | (rw [tcf_num (show 1000 ≤ cc h b p by omega)]; unfold fx; (repeat' split) <;> omega))
            · skip
              refine p_aload 97 rfl rfl rfl ?_
              refine p_iload 98 rfl rfl rfl ?_
              refine p_i2l 99 rfl rfl ?_
              refine p_callv (le := [some (.inr (.inr 66)), some (.inr (.inl s)), none]) (as := [.inr (.inr 66), .inr (.inl s)]) (rest := []) 102 0 0 0 0 rfl rfl (Nat.le_of_ble_eq_true rfl) rfl (Nat.le_of_ble_eq_true rfl) rfl rfl (Nat.le_of_ble_eq_true rfl) rfl (Nat.le_of_ble_eq_true rfl) rfl (Nat.le_refl _) (Nat.le_refl _) rfl rfl (tg_66 S) ?_
              refine p_aload 1 rfl rfl rfl ?_
              refine p_getfr (j := 47) (z := 99) 4 rfl rfl rfl (tg_66 S) rfl (fi_66_47 S) ?_
              refine p_aload 5 rfl rfl rfl ?_
              refine p_getfi (j := 48) (z := gv h1 66 48) 8 rfl rfl rfl (tg_66 S) rfl rfl ?_
              refine p_lload 9 rfl rfl rfl ?_
              refine p_last (w := 800) 10 rfl rfl (by decide) (tg_99 S) (ln_99 S) (by omega) (by omega) ?_
              refine p_nmh (fun y14 e14 => ?_)
              have S14 : Shape y14 := by rw [e14]; exact S.svA fa_99 _ _
              have kp14 : Keep mhA h y14 := by rw [e14]; exact kp.sv rfl _
              refine p_aload 11 rfl rfl rfl ?_
              refine p_dup 12 rfl rfl nl_r ?_
              refine p_getfi (j := 48) (z := gv h1 66 48) 15 rfl rfl rfl (tg_66 S14) rfl (by rw [e14, sv_ne (by decide)]) ?_
              refine p_const 16 rfl rfl ?_
              refine p_iadd (z := (gv h1 66 48) + 1) 17 rfl rfl (w32_id ⟨(by omega), (by omega)⟩) ?_
              refine p_putfi (j := 48) 20 rfl rfl rfl (fun z => absurd z (by decide)) (tg_66 S14) rfl ?_
              refine p_nmh (fun y15 e15 => ?_)
              have S15 : Shape y15 := by rw [e15]; exact S14.svF ff_66_48 _
              have kp15 : Keep mhA h y15 := by rw [e15]; exact kp14.sv rfl _
              refine p_ret rfl rfl ?_
              show Wp (d + 3) 0 0 M_X12_holdsTest 102 [some (.inr (.inr 66)), some (.inl b), some (.inl k), some (.inl s), some (.inl t), some (.inl (40 * b + i)), some (.inl p), some (.inl (gv h 84 ((700 * b) + p)))] [] y15 _
              refine p_goto 217 rfl rfl ?_
              refine p_iinc (y := p + 1) (ls' := [some (.inr (.inr 66)), some (.inl b), some (.inl k), some (.inl s), some (.inl t), some (.inl (40 * b + i)), some (.inl (p + 1)), some (.inl (gv h 84 ((700 * b) + p)))]) 220 rfl rfl rfl (w32_id ⟨(by omega), (by omega)⟩) rfl ?_
              refine p_goto 41 rfl rfl ?_
              -- leaf 5: loop 41 [some (.inr (.inr 66)), some (.inl b), some (.inl k), some (.inl s), some (.inl t), some (.inl (40 * b + i)), some (.inl (p + 1)), some (.inl (gv h 84 ((700 * b) + p)))] st=[] h=y15 e15,e14 kp15
              first | (exfalso; omega) | (refine pu _ _ _ ?_ (by rw [e15, e14]) S15; first | (rw [hw, show cc h b p = 7 by omega]; rfl) | (rw [show cc h b p = 4 by omega]; rfl) | (rw [show cc h b p = 5 by omega]; rfl) | (rw [show cc h b p = 6 by omega]; rfl) | (rw [show cc h b p = 17 by omega]; rfl) | (rw [tcf_num (show 1000 ≤ cc h b p by omega)]; unfold fx; (repeat' split) <;> omega))
          · skip
            refine p_aload 77 rfl rfl rfl ?_
            refine p_iload 79 rfl rfl rfl ?_
            refine p_const 82 rfl rfl ?_
            refine p_isub (z := (gv h 84 ((700 * b) + p)) - 1000) 83 rfl rfl (w32_id ⟨(by omega), (by omega)⟩) ?_
            refine p_i2l 84 rfl rfl ?_
            refine p_callv (le := [some (.inr (.inr 66)), some (.inr (.inl ((gv h 84 ((700 * b) + p)) - 1000))), none]) (as := [.inr (.inr 66), .inr (.inl ((gv h 84 ((700 * b) + p)) - 1000))]) (rest := []) 87 0 0 0 0 rfl rfl (Nat.le_of_ble_eq_true rfl) rfl (Nat.le_of_ble_eq_true rfl) rfl rfl (Nat.le_of_ble_eq_true rfl) rfl (Nat.le_of_ble_eq_true rfl) rfl (Nat.le_refl _) (Nat.le_refl _) rfl rfl (tg_66 S) ?_
            refine p_aload 1 rfl rfl rfl ?_
            refine p_getfr (j := 47) (z := 99) 4 rfl rfl rfl (tg_66 S) rfl (fi_66_47 S) ?_
            refine p_aload 5 rfl rfl rfl ?_
            refine p_getfi (j := 48) (z := gv h1 66 48) 8 rfl rfl rfl (tg_66 S) rfl rfl ?_
            refine p_lload 9 rfl rfl rfl ?_
            refine p_last (w := 800) 10 rfl rfl (by decide) (tg_99 S) (ln_99 S) (by omega) (by omega) ?_
            refine p_nmh (fun y16 e16 => ?_)
            have S16 : Shape y16 := by rw [e16]; exact S.svA fa_99 _ _
            have kp16 : Keep mhA h y16 := by rw [e16]; exact kp.sv rfl _
            refine p_aload 11 rfl rfl rfl ?_
            refine p_dup 12 rfl rfl nl_r ?_
            refine p_getfi (j := 48) (z := gv h1 66 48) 15 rfl rfl rfl (tg_66 S16) rfl (by rw [e16, sv_ne (by decide)]) ?_
            refine p_const 16 rfl rfl ?_
            refine p_iadd (z := (gv h1 66 48) + 1) 17 rfl rfl (w32_id ⟨(by omega), (by omega)⟩) ?_
            refine p_putfi (j := 48) 20 rfl rfl rfl (fun z => absurd z (by decide)) (tg_66 S16) rfl ?_
            refine p_nmh (fun y17 e17 => ?_)
            have S17 : Shape y17 := by rw [e17]; exact S16.svF ff_66_48 _
            have kp17 : Keep mhA h y17 := by rw [e17]; exact kp16.sv rfl _
            refine p_ret rfl rfl ?_
            show Wp (d + 3) 0 0 M_X12_holdsTest 87 [some (.inr (.inr 66)), some (.inl b), some (.inl k), some (.inl s), some (.inl t), some (.inl (40 * b + i)), some (.inl p), some (.inl (gv h 84 ((700 * b) + p)))] [] y17 _
            refine p_goto 217 rfl rfl ?_
            refine p_iinc (y := p + 1) (ls' := [some (.inr (.inr 66)), some (.inl b), some (.inl k), some (.inl s), some (.inl t), some (.inl (40 * b + i)), some (.inl (p + 1)), some (.inl (gv h 84 ((700 * b) + p)))]) 220 rfl rfl rfl (w32_id ⟨(by omega), (by omega)⟩) rfl ?_
            refine p_goto 41 rfl rfl ?_
            -- leaf 6: loop 41 [some (.inr (.inr 66)), some (.inl b), some (.inl k), some (.inl s), some (.inl t), some (.inl (40 * b + i)), some (.inl (p + 1)), some (.inl (gv h 84 ((700 * b) + p)))] st=[] h=y17 e17,e16 kp17
            first | (exfalso; omega) | (refine pu _ _ _ ?_ (by rw [e17, e16]) S17; first | (rw [hw, show cc h b p = 7 by omega]; rfl) | (rw [show cc h b p = 4 by omega]; rfl) | (rw [show cc h b p = 5 by omega]; rfl) | (rw [show cc h b p = 6 by omega]; rfl) | (rw [show cc h b p = 17 by omega]; rfl) | (rw [tcf_num (show 1000 ≤ cc h b p by omega)]; unfold fx; (repeat' split) <;> omega))
        · have he : gv h1 66 48 = ((vs.length + 1 : Nat) : Int) := he
          have hv := P.1
          have b1 := hfig (gv h1 66 48 - 1) (by omega) (by show gv h1 66 48 - 1 < ((vs.length + 1 : Nat) : Int); omega)
          refine p_iload 43 rfl rfl rfl ?_
          refine p_aload 44 rfl rfl rfl ?_
          refine p_getfr (j := 24) (z := 83) 47 rfl rfl rfl (tg_66 S) rfl (fi_66_24 S) ?_
          refine p_iload 49 rfl rfl rfl ?_
          refine p_iald (w := 8040) (z := gv h 83 (40 * b + i)) 50 rfl rfl (tg_83 S) (ln_83 S) (by omega) (by omega) (kp.1 _ _ rfl) ?_
          refine p_ic_ge_f 53 rfl rfl (by omega) ?_
          refine p_aload 54 rfl rfl rfl ?_
          refine p_getfr (j := 25) (z := 84) 57 rfl rfl rfl (tg_66 S) rfl (fi_66_25 S) ?_
          refine p_const 60 rfl rfl ?_
          refine p_iload 61 rfl rfl rfl ?_
          refine p_imul (z := 700 * b) 62 rfl rfl (w32_id ⟨(by omega), (by omega)⟩) ?_
          refine p_iload 64 rfl rfl rfl ?_
          refine p_iadd (z := (700 * b) + p) 65 rfl rfl (w32_id ⟨(by omega), (by omega)⟩) ?_
          refine p_iald (w := 140700) (z := gv h 84 ((700 * b) + p)) 66 rfl rfl (tg_84 S) (ln_84 S) (by omega) (by omega) (kp.1 _ _ rfl) ?_
          refine p_istore (ls' := [some (.inr (.inr 66)), some (.inl b), some (.inl k), some (.inl s), some (.inl t), some (.inl (40 * b + i)), some (.inl p), some (.inl (gv h 84 ((700 * b) + p)))]) 68 rfl rfl (Nat.le_of_ble_eq_true rfl) rfl ?_
          refine p_iload 70 rfl rfl rfl ?_
          refine p_const 73 rfl rfl ?_
          refine p_ic_lt_t 90 rfl rfl (by omega) ?_
          refine p_iload 92 rfl rfl rfl ?_
          refine p_const 93 rfl rfl ?_
          refine p_ic_ne_t 105 rfl rfl (by omega) ?_
          refine p_iload 107 rfl rfl rfl ?_
          refine p_const 108 rfl rfl ?_
          refine p_ic_ne_t 124 rfl rfl (by omega) ?_
          refine p_iload 126 rfl rfl rfl ?_
          refine p_const 128 rfl rfl ?_
          refine p_ic_ne_t 141 rfl rfl (by omega) ?_
          refine p_iload 143 rfl rfl rfl ?_
          refine p_const 145 rfl rfl ?_
          refine p_ic_ne_t 162 rfl rfl (by omega) ?_
          refine p_iload 164 rfl rfl rfl ?_
          refine p_const 166 rfl rfl ?_
          refine p_ic_ne_t 177 rfl rfl (by omega) ?_
          refine p_iload 179 rfl rfl rfl ?_
          refine p_const 181 rfl rfl ?_
          refine p_ic_ne_f 184 rfl rfl (by omega) ?_
          refine p_aload 185 rfl rfl rfl ?_
          refine p_getfr (j := 47) (z := 99) 188 rfl rfl rfl (tg_66 S) rfl (fi_66_47 S) ?_
          refine p_aload 189 rfl rfl rfl ?_
          refine p_getfi (j := 48) (z := gv h1 66 48) 192 rfl rfl rfl (tg_66 S) rfl rfl ?_
          refine p_const 193 rfl rfl ?_
          refine p_isub (z := (gv h1 66 48) - 1) 194 rfl rfl (w32_id ⟨(by omega), (by omega)⟩) ?_
          refine p_lconst 195 rfl rfl ?_
          refine p_aload 196 rfl rfl rfl ?_
          refine p_getfr (j := 47) (z := 99) 199 rfl rfl rfl (tg_66 S) rfl (fi_66_47 S) ?_
          refine p_aload 200 rfl rfl rfl ?_
          refine p_getfi (j := 48) (z := gv h1 66 48) 203 rfl rfl rfl (tg_66 S) rfl rfl ?_
          refine p_const 204 rfl rfl ?_
          refine p_isub (z := (gv h1 66 48) - 1) 205 rfl rfl (w32_id ⟨(by omega), (by omega)⟩) ?_
          refine p_lald (w := 800) (z := gv h1 99 ((gv h1 66 48) - 1)) 206 rfl rfl (tg_99 S) (ln_99 S) (by omega) (by omega) rfl ?_
          refine p_lsub (z := 1 - (gv h1 99 ((gv h1 66 48) - 1))) 207 rfl rfl (w64_id ⟨(by omega), (by omega)⟩) ?_
          refine p_last (w := 800) 208 rfl rfl (by decide) (tg_99 S) (ln_99 S) (by omega) (by omega) ?_
          refine p_nmh (fun y1 e1 => ?_)
          have S1 : Shape y1 := by rw [e1]; exact S.svA fa_99 _ _
          have kp1 : Keep mhA h y1 := by rw [e1]; exact kp.sv rfl _
          refine p_goto 217 rfl rfl ?_
          refine p_iinc (y := p + 1) (ls' := [some (.inr (.inr 66)), some (.inl b), some (.inl k), some (.inl s), some (.inl t), some (.inl (40 * b + i)), some (.inl (p + 1)), some (.inl (gv h 84 ((700 * b) + p)))]) 220 rfl rfl rfl (w32_id ⟨(by omega), (by omega)⟩) rfl ?_
          refine p_goto 41 rfl rfl ?_
          -- leaf 1: loop 41 [some (.inr (.inr 66)), some (.inl b), some (.inl k), some (.inl s), some (.inl t), some (.inl (40 * b + i)), some (.inl (p + 1)), some (.inl (gv h 84 ((700 * b) + p)))] st=[] h=y1 e1 kp1
          rw [g2] at nx
          refine nx _ _ _ stv_not (by assumption) kp1 ?_ (by rw [e1, sv_ne (by decide), he]; rfl)
          rw [e1, show gv h1 66 48 - 1 = vs.length by omega, hv]
          exact (P.2).push
        · have he : gv h1 66 48 = ((vs.length + 1 + 1 : Nat) : Int) := he
          have b1 := hfig ((vs.length + 1 : Nat) : Int) (by omega) (by show ((vs.length + 1 : Nat) : Int) < ((vs.length + 1 + 1 : Nat) : Int); omega)
          have b2 := hfig (vs.length : Int) (by omega) (by show (vs.length : Int) < ((vs.length + 1 + 1 : Nat) : Int); omega)
          have hv : gv h1 99 ((vs.length + 1 : Nat) : Int) = v := P.1
          have hu : gv h1 99 (vs.length : Int) = u := P.2.1
          rw [hv] at b1
          rw [hu] at b2
          have sl2 : vs.length + 1 + 1 = ts.length := sl
          have h01 : 14 ≤ gv h 84 (700 * b + p) → (u = 0 ∨ u = 1) ∧ (v = 0 ∨ v = 1) := fun z => TyV.b2 (r := []) hc T (by omega)
          refine p_iload 43 rfl rfl rfl ?_
          refine p_aload 44 rfl rfl rfl ?_
          refine p_getfr (j := 24) (z := 83) 47 rfl rfl rfl (tg_66 S) rfl (fi_66_24 S) ?_
          refine p_iload 49 rfl rfl rfl ?_
          refine p_iald (w := 8040) (z := gv h 83 (40 * b + i)) 50 rfl rfl (tg_83 S) (ln_83 S) (by omega) (by omega) (kp.1 _ _ rfl) ?_
          refine p_ic_ge_f 53 rfl rfl (by omega) ?_
          refine p_aload 54 rfl rfl rfl ?_
          refine p_getfr (j := 25) (z := 84) 57 rfl rfl rfl (tg_66 S) rfl (fi_66_25 S) ?_
          refine p_const 60 rfl rfl ?_
          refine p_iload 61 rfl rfl rfl ?_
          refine p_imul (z := 700 * b) 62 rfl rfl (w32_id ⟨(by omega), (by omega)⟩) ?_
          refine p_iload 64 rfl rfl rfl ?_
          refine p_iadd (z := (700 * b) + p) 65 rfl rfl (w32_id ⟨(by omega), (by omega)⟩) ?_
          refine p_iald (w := 140700) (z := gv h 84 ((700 * b) + p)) 66 rfl rfl (tg_84 S) (ln_84 S) (by omega) (by omega) (kp.1 _ _ rfl) ?_
          refine p_istore (ls' := [some (.inr (.inr 66)), some (.inl b), some (.inl k), some (.inl s), some (.inl t), some (.inl (40 * b + i)), some (.inl p), some (.inl (gv h 84 ((700 * b) + p)))]) 68 rfl rfl (Nat.le_of_ble_eq_true rfl) rfl ?_
          refine p_iload 70 rfl rfl rfl ?_
          refine p_const 73 rfl rfl ?_
          refine p_ic_lt_t 90 rfl rfl (by omega) ?_
          refine p_iload 92 rfl rfl rfl ?_
          refine p_const 93 rfl rfl ?_
          refine p_ic_ne_t 105 rfl rfl (by omega) ?_
          refine p_iload 107 rfl rfl rfl ?_
          refine p_const 108 rfl rfl ?_
          refine p_ic_ne_t 124 rfl rfl (by omega) ?_
          refine p_iload 126 rfl rfl rfl ?_
          refine p_const 128 rfl rfl ?_
          refine p_ic_ne_t 141 rfl rfl (by omega) ?_
          refine p_iload 143 rfl rfl rfl ?_
          refine p_const 145 rfl rfl ?_
          refine p_ic_ne_t 162 rfl rfl (by omega) ?_
          refine p_iload 164 rfl rfl rfl ?_
          refine p_const 166 rfl rfl ?_
          refine p_ic_ne_t 177 rfl rfl (by omega) ?_
          refine p_iload 179 rfl rfl rfl ?_
          refine p_const 181 rfl rfl ?_
          refine p_ic_ne_t 211 rfl rfl (by omega) ?_
          refine p_aload 212 rfl rfl rfl ?_
          refine p_iload 214 rfl rfl rfl ?_
          refine p_callv (le := [some (.inr (.inr 66)), some (.inl (gv h 84 ((700 * b) + p))), none, none, none, none]) (as := [.inr (.inr 66), .inl (gv h 84 ((700 * b) + p))]) (rest := []) 217 0 0 0 0 rfl rfl (Nat.le_of_ble_eq_true rfl) rfl (Nat.le_of_ble_eq_true rfl) rfl rfl (Nat.le_of_ble_eq_true rfl) rfl (Nat.le_of_ble_eq_true rfl) rfl (Nat.le_refl _) (Nat.le_refl _) rfl rfl (tg_66 S) ?_
          refine m_joins S (gv h 84 ((700 * b) + p)) ((by assumption)) (by omega) (by omega) (by omega) (by omega) (by omega) (h01) (fun y1 p1 S1 => ?_)
          have kp1 : Keep mhA h y1 := kp.trans p1.1
          show Wp (d + 3) 0 0 M_X12_holdsTest 217 [some (.inr (.inr 66)), some (.inl b), some (.inl k), some (.inl s), some (.inl t), some (.inl (40 * b + i)), some (.inl p), some (.inl (gv h 84 ((700 * b) + p)))] [] y1 _
          refine p_iinc (y := p + 1) (ls' := [some (.inr (.inr 66)), some (.inl b), some (.inl k), some (.inl s), some (.inl t), some (.inl (40 * b + i)), some (.inl (p + 1)), some (.inl (gv h 84 ((700 * b) + p)))]) 220 rfl rfl rfl (w32_id ⟨(by omega), (by omega)⟩) rfl ?_
          refine p_goto 41 rfl rfl ?_
          -- leaf 1: loop 41 [some (.inr (.inr 66)), some (.inl b), some (.inl k), some (.inl s), some (.inl t), some (.inl (40 * b + i)), some (.inl (p + 1)), some (.inl (gv h 84 ((700 * b) + p)))] st=[] h=y1  kp1
          exact nx _ _ _ (stv_join g2) S1 kp1 p1.2.2 (by rw [p1.2.1]; rfl)
      · rw [if_neg l63] at ty; cases ty
theorem m_holdsTest {d : Nat} {h : PH} {q : PQ} (S : Shape h) (b i s t : Int) {a pl : Int} (hs : 0 ≤ s ∧ s < 10) (ht : 0 ≤ t ∧ t < 1000) (b0 : 0 ≤ b) (b1 : b ≤ 200) (k0 : 0 ≤ i) (k1 : i < 40) (F : FI h) (I : BkI h a b pl i) (pl7 : pl ≤ 700)
    (K : ∀ r h', (Keep mhA h h' ∧ r = tv h b s t (hz h (t + 1).toNat) i) → Shape h' → q (some (.inl r)) h') :
    Wp (d + 3) 0 0 M_X12_holdsTest 0 [some (.inr (.inr 66)), some (.inl b), some (.inl i), some (.inl s), some (.inl t), none, none, none] [] h q := by
  obtain ⟨⟨j1, j1'⟩, ⟨j2, j2'⟩, j3, j4, j5, j6, ⟨j7, j8, j9⟩, j10, j11⟩ := I
  have etf : gv h 82 (40 * b + i) = tf h b i := rfl
  have ete : gv h 83 (40 * b + i) = te h b i := rfl
  refine p_const 2 rfl rfl ?_
  refine p_iload 3 rfl rfl rfl ?_
  refine p_imul (z := 40 * b) 4 rfl rfl (w32_id ⟨(by omega), (by omega)⟩) ?_
  refine p_iload 5 rfl rfl rfl ?_
  refine p_iadd (z := (40 * b) + i) 6 rfl rfl (w32_id ⟨(by omega), (by omega)⟩) ?_
  refine p_istore (ls' := [some (.inr (.inr 66)), some (.inl b), some (.inl i), some (.inl s), some (.inl t), some (.inl ((40 * b) + i)), none, none]) 8 rfl rfl (Nat.le_of_ble_eq_true rfl) rfl ?_
  refine p_aload 9 rfl rfl rfl ?_
  refine p_getfr (j := 23) (z := 82) 12 rfl rfl rfl (tg_66 S) rfl (fi_66_23 S) ?_
  refine p_iload 14 rfl rfl rfl ?_
  refine p_iald (w := 8040) (z := gv h 82 ((40 * b) + i)) 15 rfl rfl (tg_82 S) (ln_82 S) (by omega) (by omega) rfl ?_
  refine p_aload 16 rfl rfl rfl ?_
  refine p_getfr (j := 24) (z := 83) 19 rfl rfl rfl (tg_66 S) rfl (fi_66_24 S) ?_
  refine p_iload 21 rfl rfl rfl ?_
  refine p_iald (w := 8040) (z := gv h 83 ((40 * b) + i)) 22 rfl rfl (tg_83 S) (ln_83 S) (by omega) (by omega) rfl ?_
  refine p_ic_ne 25 27 rfl rfl rfl (fun c1 => ?_) (fun c1 => ?_)
  · skip
    refine p_aload 28 rfl rfl rfl ?_
    refine p_const 29 rfl rfl ?_
    refine p_putfi (j := 48) 32 rfl rfl rfl (fun z => absurd z (by decide)) (tg_66 S) rfl ?_
    refine p_nmh (fun y2 e2 => ?_)
    have S2 : Shape y2 := by rw [e2]; exact S.svF ff_66_48 _
    have kp2 : Keep mhA h y2 := by rw [e2]; exact (Keep.rf mhA _).sv rfl _
    refine p_aload 33 rfl rfl rfl ?_
    refine p_getfr (j := 23) (z := 82) 36 rfl rfl rfl (tg_66 S2) rfl (fi_66_23 S2) ?_
    refine p_iload 38 rfl rfl rfl ?_
    refine p_iald (w := 8040) (z := gv h 82 ((40 * b) + i)) 39 rfl rfl (tg_82 S2) (ln_82 S2) (by omega) (by omega) (kp2.1 _ _ rfl) ?_
    refine p_istore (ls' := [some (.inr (.inr 66)), some (.inl b), some (.inl i), some (.inl s), some (.inl t), some (.inl ((40 * b) + i)), some (.inl (gv h 82 ((40 * b) + i))), none]) 41 rfl rfl (Nat.le_of_ble_eq_true rfl) rfl ?_
    -- leaf 1: loop 41 [some (.inr (.inr 66)), some (.inl b), some (.inl i), some (.inl s), some (.inl t), some (.inl ((40 * b) + i)), some (.inl (gv h 82 ((40 * b) + i))), none] st=[] h=y2 e2 kp2
    refine m_test_loop b i s t i hs ht b0 b1 k0 k1 F (tv h b s t (hz h (t + 1).toNat) i) j7 (by omega) (fun h' k' S' => K _ h' ⟨k', rfl⟩ S') (te h b i - tf h b i).toNat (tf h b i) 0 [] [] none _ (by omega) (Int.le_refl _) S2 kp2 (j10 (by omega)) (by decide) trivial trivial ?_ (by rw [e2, sv_eq]; rfl)
    unfold tv; rw [if_neg (by omega)]
  · skip
    refine p_const 26 rfl rfl ?_
    refine p_zret rfl rfl (by decide) ?_
    -- leaf 2: answer [.inl 1] h=h 
    refine K 1 h ⟨Keep.rf _ _, ?_⟩ S
    unfold tv; rw [if_pos (by omega)]

