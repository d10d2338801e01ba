/-! CUTS of the hoists that the other side reads, the class's side -/
noncomputable def pfF (h : PH) (k s t z v : Int) (e : Int × Int) : Int := bsN (fun j => Us h k s t z (sub v (rl v) e.1 e.2) j)
def pad4 (l : List Int) : P4 := [pad l 0, pad l 1, pad l 2, pad l 3]
def gat (pf : Int × Int → Int) (v : Int) : Nat → Int → List P4
  | 0, _ => []
  | c + 1, w => (if ∀ e ∈ CL w v, pf e ≠ 0 then [pad4 ((CL w v).map pf)] else []) ++ gat pf v c (w + 1)
theorem SplX.pf {h' h : PH} {k s t z v : Int} (X : SplX h' h k s t z v) {fr len : Int} (f0 : 0 ≤ fr) (l0 : 1 ≤ len) (fl : fr + len ≤ rl v) : gv h' 25 (fr * 5 + len) = pfF h k s t z v (fr, len) ∧ b40 (pfF h k s t z v (fr, len)) := by
  obtain ⟨a1, _, a3, _⟩ := X.2.1 fr len f0 l0 fl
  have e := bsN_eq (P := fun j => Us h k s t z (sub v (rl v) fr len) j) a1 (fun j j0 j1 => (a3 j j0 j1).trans ⟨fun y => y.1, fun y => ⟨y, trivial⟩⟩)
  exact ⟨e, by unfold pfF; rw [← e]; exact a1⟩
/-- the parts of a cut are parts -/
theorem cutl_ok {w n : Int} : ∀ (c : Nat) (k fr : Int), k + c = n → 0 ≤ fr → fr ≤ k → ∀ e ∈ cutl w n c k fr, 0 ≤ e.1 ∧ 1 ≤ e.2 ∧ e.1 + e.2 ≤ n
  | 0, _, _, _, _, _, e, h => absurd h List.not_mem_nil
  | c + 1, k, fr, hk, f0, f1, e, h => by
    unfold cutl at h
    by_cases z : k = n - 1 ∨ bit w k = 1
    · rw [if_pos z] at h
      rcases List.mem_cons.mp h with y | y
      · rw [y]; exact ⟨f0, by show 1 ≤ k + 1 - fr; omega, by show fr + (k + 1 - fr) ≤ n; omega⟩
      · exact cutl_ok c (k + 1) (k + 1) (by omega) (by omega) (by omega) e y
    · rw [if_neg z] at h
      exact cutl_ok c (k + 1) fr (by omega) f0 (by omega) e h
theorem CL_ok {w v : Int} : ∀ e ∈ CL w v, 0 ≤ e.1 ∧ 1 ≤ e.2 ∧ e.1 + e.2 ≤ rl v := cutl_ok (rl v).toNat 0 0 (by have := rl_in v; omega) (Int.le_refl 0) (Int.le_refl 0)
def c60 (a _i : Int) : Bool := decide (a = 60)
theorem pad_snoc {l : List Int} {x : Int} (p : Nat) : pad (l ++ [x]) p = if p = l.length then x else pad l p := by
  unfold pad
  rw [List.getD_eq_getElem?_getD, List.getD_eq_getElem?_getD]
  by_cases z : p = l.length
  · rw [if_pos z, z, List.getElem?_append_right (Nat.le_refl _), Nat.sub_self]; rfl
  · rw [if_neg z]
    by_cases y : p < l.length
    · rw [List.getElem?_append_left y]
    · rw [List.getElem?_eq_none (by rw [List.length_append]; show l.length + 1 ≤ p; omega), List.getElem?_eq_none (by omega)]
theorem x_addCut {d : Nat} {h : PH} {q : PQ} (S : Shape h) (w : Int) {h0 : PH} {k s t z v cn : Int} (X : SplX h h0 k s t z v) (g : letters v) (hc : gv h 59 3 = cn) (c0 : 0 ≤ cn) (c1 : cn < 600) (w0 : 0 ≤ w) (w1 : w < 8)
    (K : ∀ r h', (Keep c60 h h' ∧ (∀ i, i < 4 * cn ∨ 4 * cn + 4 ≤ i → gv h' 60 i = gv h 60 i) ∧ ((r = 1 ∧ (∀ e ∈ CL w v, pfF h0 k s t z v e ≠ 0) ∧ ∀ p : Nat, p < 4 → gv h' 60 (4 * cn + p) = pad ((CL w v).map (pfF h0 k s t z v)) p) ∨ (r = 0 ∧ ¬ ∀ e ∈ CL w v, pfF h0 k s t z v e ≠ 0))) → Shape h' → q (some (.inl r)) h') :
    Wp (d + 2) 0 0 M_X4_addCut 0 [some (.inr (.inr 59)), some (.inl w), some (.inl (rl v)), none, none, none] [] h q := by
  have rb := rl_in v
  have gp := g.1
  have J : ∀ (c : Nat) (j fr at_ : Int) (P : List Int) (Q : List (Int × Int)) (h1 : PH), j + c = rl v → 0 ≤ fr → fr ≤ j → at_ = 4 * cn + P.length → CL w v = Q ++ cutl w (rl v) c j fr → P = Q.map (pfF h0 k s t z v) → (∀ e ∈ Q, pfF h0 k s t z v e ≠ 0) → Shape h1 → Keep c60 h h1 → (∀ i, i < 4 * cn ∨ 4 * cn + 4 ≤ i → gv h1 60 i = gv h 60 i) → (∀ p : Nat, p < 4 → gv h1 60 (4 * cn + p) = pad P p) →
      Wp (d + 2) 0 0 M_X4_addCut 39 [some (.inr (.inr 59)), some (.inl w), some (.inl (rl v)), some (.inl fr), some (.inl at_), some (.inl j)] [] h1 q := by
    intro c
    induction c with
    | zero =>
      intro j fr at_ P Q h1 hj f0 f1 ha hQ hP nz S1 k1 o cells
      rw [show cutl w (rl v) 0 j fr = [] from rfl, List.append_nil] at hQ
      refine p_iload 41 rfl rfl rfl ?_
      refine p_iload 42 rfl rfl rfl ?_
      refine p_ic_ge_t 117 rfl rfl (by omega) ?_
      refine p_const 118 rfl rfl ?_
      refine p_zret rfl rfl (by decide) ?_
      -- leaf 1: answer [.inl 1] h=h1 
      exact K 1 h1 ⟨k1, o, Or.inl ⟨rfl, by rw [hQ]; exact nz, by rw [hQ, ← hP]; exact cells⟩⟩ S1
    | succ c ih =>
      intro j fr at_ P Q h1 hj f0 f1 ha hQ hP nz S1 k1 o cells
      have lc : cutl w (rl v) (c + 1) j fr = if j = rl v - 1 ∨ bit w j = 1 then (fr, j + 1 - fr) :: cutl w (rl v) c (j + 1) (j + 1) else cutl w (rl v) c (j + 1) fr := rfl
      have len4 : P.length + 1 ≤ 4 ∨ ¬ (j = rl v - 1 ∨ bit w j = 1) := by
        by_cases y : j = rl v - 1 ∨ bit w j = 1
        · left
          have := congrArg List.length hQ
          rw [lc, if_pos y, List.length_append, List.length_cons] at this
          have l4 := CL_len w v
          rw [hP, List.length_map]
          omega
        · exact Or.inr y
      have bj : w / 2 ^ j.toNat % 2 = bit w j := rfl
      have e25 : gv h1 25 (fr * 5 + (j + 1 - fr)) = pfF h0 k s t z v (fr, j + 1 - fr) ∧ b40 (pfF h0 k s t z v (fr, j + 1 - fr)) := by
        have y := X.pf (fr := fr) (len := j + 1 - fr) f0 (by omega) (by omega)
        exact ⟨(k1.1 25 _ rfl).trans y.1, y.2⟩
      have cut : (j = rl v - 1 ∨ bit w j = 1) → Wp (d + 2) 0 0 M_X4_addCut 68 [some (.inr (.inr 59)), some (.inl w), some (.inl (rl v)), some (.inl fr), some (.inl at_), some (.inl j)] [] h1 q := by
        intro y
        rw [lc, if_pos y] at hQ
        have len4 : P.length + 1 ≤ 4 := by rcases len4 with z | z; exact z; exact absurd y z
        have inl : (fr, j + 1 - fr) ∈ CL w v := by rw [hQ]; exact List.mem_append_right _ List.mem_cons_self
        refine p_aload 69 rfl rfl rfl ?_
        refine p_getfr (j := 2) (z := 60) 72 rfl rfl rfl (tg_59 S1) rfl (fi_59_2 S1) ?_
        refine p_iload 74 rfl rfl rfl ?_
        refine p_aload 75 rfl rfl rfl ?_
        refine p_getfr (j := 1) (z := 24) 78 rfl rfl rfl (tg_59 S1) rfl (fi_59_1 S1) ?_
        refine p_iload 79 rfl rfl rfl ?_
        refine p_iload 81 rfl rfl rfl ?_
        refine p_const 82 rfl rfl ?_
        refine p_iadd (z := j + 1) 83 rfl rfl (w32_id ⟨(by omega), (by omega)⟩) ?_
        refine p_iload 84 rfl rfl rfl ?_
        refine p_isub (z := (j + 1) - fr) 85 rfl rfl (w32_id ⟨(by omega), (by omega)⟩) ?_
        refine p_callv (le := [some (.inr (.inr 24)), some (.inl fr), some (.inl ((j + 1) - fr)), none]) (as := [.inr (.inr 24), .inl fr, .inl ((j + 1) - fr)]) (rest := [.inl at_, .inr (.inr 60)]) 88 0 0 0 0 rfl rfl (Nat.le_of_ble_eq_true rfl) rfl (Nat.le_of_ble_eq_true rfl) rfl rfl (Nat.le_of_ble_eq_true rfl) rfl (Nat.le_of_ble_eq_true rfl) rfl (Nat.le_refl _) (Nat.le_refl _) rfl rfl (tg_24 S1) ?_
        refine p_iload 1 rfl rfl rfl ?_
        refine p_const 2 rfl rfl ?_
        refine p_imul (z := fr * 5) 3 rfl rfl (w32_id ⟨(by omega), (by omega)⟩) ?_
        refine p_iload 4 rfl rfl rfl ?_
        refine p_iadd (z := (fr * 5) + ((j + 1) - fr)) 5 rfl rfl (w32_id ⟨(by omega), (by omega)⟩) ?_
        refine p_istore (ls' := [some (.inr (.inr 24)), some (.inl fr), some (.inl ((j + 1) - fr)), some (.inl ((fr * 5) + ((j + 1) - fr)))]) 6 rfl rfl (Nat.le_of_ble_eq_true rfl) rfl ?_
        refine p_iload 7 rfl rfl rfl ?_
        refine p_if_lt_f 10 rfl rfl (by omega) ?_
        refine p_iload 11 rfl rfl rfl ?_
        refine p_aload 12 rfl rfl rfl ?_
        refine p_getfr (j := 5) (z := 25) 15 rfl rfl rfl (tg_24 S1) rfl (fi_24_5 S1) ?_
        refine p_alen (w := 20) 16 rfl rfl (by rw [(tg_25 S1)]; decide) (ln_25 S1) ?_
        refine p_ic_ge_f 19 rfl rfl (by omega) ?_
        refine p_aload 20 rfl rfl rfl ?_
        refine p_getfr (j := 5) (z := 25) 23 rfl rfl rfl (tg_24 S1) rfl (fi_24_5 S1) ?_
        refine p_iload 24 rfl rfl rfl ?_
        refine p_lald (w := 20) (z := gv h1 25 ((fr * 5) + ((j + 1) - fr))) 25 rfl rfl (tg_25 S1) (ln_25 S1) (by omega) (by omega) rfl ?_
        refine p_goto 29 rfl rfl ?_
        refine p_lret rfl rfl ?_
        show Wp (d + 2) 0 0 M_X4_addCut 88 [some (.inr (.inr 59)), some (.inl w), some (.inl (rl v)), some (.inl fr), some (.inl at_), some (.inl j)] [.inr (.inl (gv h1 25 ((fr * 5) + ((j + 1) - fr)))), .inl at_, .inr (.inr 60)] h1 _
        refine p_last (w := 2400) 89 rfl rfl (by decide) (tg_60 S1) (ln_60 S1) (by omega) (by omega) ?_
        refine p_nmh (fun y1 e1 => ?_)
        have S1 : Shape y1 := by rw [e1]; exact S1.svA fa_60 _ _
        refine p_aload 90 rfl rfl rfl ?_
        refine p_getfr (j := 2) (z := 60) 93 rfl rfl rfl (tg_59 S1) rfl (fi_59_2 S1) ?_
        refine p_iload 95 rfl rfl rfl ?_
        refine p_lald (w := 2400) (z := gv h1 25 ((fr * 5) + ((j + 1) - fr))) 96 rfl rfl (tg_60 S1) (ln_60 S1) (by omega) (by omega) (by rw [e1]; exact sv_eq _ _ _ _) ?_
        refine p_lconst 97 rfl rfl ?_
        refine p_lc_ne 98 101 103 rfl rfl rfl rfl rfl (fun c2 => ?_) (fun c2 => ?_)
        · skip
          refine p_iinc (y := at_ + 1) (ls' := [some (.inr (.inr 59)), some (.inl w), some (.inl (rl v)), some (.inl fr), some (.inl (at_ + 1)), some (.inl j)]) 106 rfl rfl rfl (w32_id ⟨(by omega), (by omega)⟩) rfl ?_
          refine p_iload 108 rfl rfl rfl ?_
          refine p_const 109 rfl rfl ?_
          refine p_iadd (z := j + 1) 110 rfl rfl (w32_id ⟨(by omega), (by omega)⟩) ?_
          refine p_istore (ls' := [some (.inr (.inr 59)), some (.inl w), some (.inl (rl v)), some (.inl (j + 1)), some (.inl (at_ + 1)), some (.inl j)]) 111 rfl rfl (Nat.le_of_ble_eq_true rfl) rfl ?_
          refine p_iinc (y := j + 1) (ls' := [some (.inr (.inr 59)), some (.inl w), some (.inl (rl v)), some (.inl (j + 1)), some (.inl (at_ + 1)), some (.inl (j + 1))]) 114 rfl rfl rfl (w32_id ⟨(by omega), (by omega)⟩) rfl ?_
          refine p_goto 39 rfl rfl ?_
          -- leaf 1: loop 39 [some (.inr (.inr 59)), some (.inl w), some (.inl (rl v)), some (.inl (j + 1)), some (.inl (at_ + 1)), some (.inl (j + 1))] st=[] h=y1 e1
          refine ih (j + 1) (j + 1) (at_ + 1) (P ++ [pfF h0 k s t z v (fr, j + 1 - fr)]) (Q ++ [(fr, j + 1 - fr)]) _ (by omega) (by omega) (by omega) ?_ ?_ ?_ ?_ S1 (by rw [e1]; exact k1.sv rfl _) (fun i hi => by rw [e1, sv_nf (by omega)]; exact o i hi) (fun p hp => ?_)
          · rw [ha, List.length_append]; show _ = 4 * cn + ((P.length + 1 : Nat) : Int); omega
          · rw [hQ, List.append_assoc]; rfl
          · rw [hP, List.map_append]; rfl
          · intro e he
            rcases List.mem_append.mp he with y1 | y1
            · exact nz e y1
            · rw [List.mem_singleton.mp y1, ← e25.1]; assumption
          · rw [pad_snoc, e1, e25.1, ha]
            by_cases y1 : p = P.length
            · rw [if_pos y1, y1, sv_eq]
            · rw [if_neg y1, sv_nf (by omega)]; exact cells p hp
        · skip
          refine p_const 102 rfl rfl ?_
          refine p_zret rfl rfl (by decide) ?_
          -- leaf 2: answer [.inl 0] h=y1 e1
          refine K 0 _ ⟨by rw [e1]; exact k1.sv rfl _, fun i hi => by rw [e1, sv_nf (by omega)]; exact o i hi, Or.inr ⟨rfl, fun H => H _ inl ?_⟩⟩ S1
          rw [← e25.1]; omega
      refine p_iload 41 rfl rfl rfl ?_
      refine p_iload 42 rfl rfl rfl ?_
      refine p_ic_ge_f 45 rfl rfl (by omega) ?_
      refine p_iload 47 rfl rfl rfl ?_
      refine p_const 48 rfl rfl ?_
      refine p_ic_ge_f 51 rfl rfl (by omega) ?_
      refine p_iload 53 rfl rfl rfl ?_
      refine p_iload 54 rfl rfl rfl ?_
      refine p_const 55 rfl rfl ?_
      refine p_isub (z := (rl v) - 1) 56 rfl rfl (w32_id ⟨(by omega), (by omega)⟩) ?_
      refine p_ic_eq 59 68 rfl rfl rfl (fun c1 => ?_) (fun c1 => ?_)
      · skip
        -- leaf 1: loop 68 [some (.inr (.inr 59)), some (.inl w), some (.inl (rl v)), some (.inl fr), some (.inl at_), some (.inl j)] st=[] h=h1 
        exact cut (Or.inl (by omega))
      · skip
        refine p_iload 60 rfl rfl rfl ?_
        refine p_iload 62 rfl rfl rfl ?_
        refine p_ishr (z := w / 2 ^ (j).toNat) 63 rfl rfl (by omega) (by omega) rfl ?_
        refine p_const 64 rfl rfl ?_
        refine p_iand (z := (w / 2 ^ (j).toNat) % 2) 65 rfl rfl (mask32 1 rfl (by decide)) ?_
        refine p_if_eq 68 111 rfl rfl rfl (fun c2 => ?_) (fun c2 => ?_)
        · skip
          refine p_iinc (y := j + 1) (ls' := [some (.inr (.inr 59)), some (.inl w), some (.inl (rl v)), some (.inl fr), some (.inl at_), some (.inl (j + 1))]) 114 rfl rfl rfl (w32_id ⟨(by omega), (by omega)⟩) rfl ?_
          refine p_goto 39 rfl rfl ?_
          -- leaf 2: loop 39 [some (.inr (.inr 59)), some (.inl w), some (.inl (rl v)), some (.inl fr), some (.inl at_), some (.inl (j + 1))] st=[] h=h1 
          exact ih (j + 1) fr at_ P Q h1 (by omega) f0 (by omega) ha (by rw [lc, if_neg (by omega)] at hQ; exact hQ) hP nz S1 k1 o cells
        · skip
          -- leaf 3: loop 68 [some (.inr (.inr 59)), some (.inl w), some (.inl (rl v)), some (.inl fr), some (.inl at_), some (.inl j)] st=[] h=h1 
          exact cut (Or.inr (by have := bit_in w j; omega))
  have J13 : ∀ (c : Nat) (x : Int) (h1 : PH), x + c = 4 → 0 ≤ x → Shape h1 → Keep c60 h h1 → (∀ i, i < 4 * cn ∨ 4 * cn + 4 ≤ i → gv h1 60 i = gv h 60 i) → (∀ p : Int, 0 ≤ p → p < x → gv h1 60 (4 * cn + p) = 0) →
      Wp (d + 2) 0 0 M_X4_addCut 13 [some (.inr (.inr 59)), some (.inl w), some (.inl (rl v)), some (.inl 0), some (.inl (cn * 4)), some (.inl x)] [] h1 q := by
    intro c
    induction c with
    | zero =>
      intro x h1 hx x0 S1 k1 o cells
      refine p_iload 15 rfl rfl rfl ?_
      refine p_const 16 rfl rfl ?_
      refine p_ic_ge_t 36 rfl rfl (by omega) ?_
      refine p_const 37 rfl rfl ?_
      refine p_istore (ls' := [some (.inr (.inr 59)), some (.inl w), some (.inl (rl v)), some (.inl 0), some (.inl (cn * 4)), some (.inl 0)]) 39 rfl rfl (Nat.le_of_ble_eq_true rfl) rfl ?_
      -- leaf 1: loop 39 [some (.inr (.inr 59)), some (.inl w), some (.inl (rl v)), some (.inl 0), some (.inl (cn * 4)), some (.inl 0)] st=[] h=h1 
      exact J (rl v).toNat 0 0 (cn * 4) [] [] h1 (by omega) (Int.le_refl 0) (Int.le_refl 0) (by show cn * 4 = 4 * cn + ((0 : Nat) : Int); omega) rfl rfl (fun e he => absurd he List.not_mem_nil) S1 k1 o (fun p hp => by rw [cells p (by omega) (by omega)]; rfl)
    | succ c ih =>
      intro x h1 hx x0 S1 k1 o cells
      refine p_iload 15 rfl rfl rfl ?_
      refine p_const 16 rfl rfl ?_
      refine p_ic_ge_f 19 rfl rfl (by omega) ?_
      refine p_aload 20 rfl rfl rfl ?_
      refine p_getfr (j := 2) (z := 60) 23 rfl rfl rfl (tg_59 S1) rfl (fi_59_2 S1) ?_
      refine p_iload 25 rfl rfl rfl ?_
      refine p_iload 27 rfl rfl rfl ?_
      refine p_iadd (z := (cn * 4) + x) 28 rfl rfl (w32_id ⟨(by omega), (by omega)⟩) ?_
      refine p_lconst 29 rfl rfl ?_
      refine p_last (w := 2400) 30 rfl rfl (by decide) (tg_60 S1) (ln_60 S1) (by omega) (by omega) ?_
      refine p_nmh (fun y1 e1 => ?_)
      have S1 : Shape y1 := by rw [e1]; exact S1.svA fa_60 _ _
      refine p_iinc (y := x + 1) (ls' := [some (.inr (.inr 59)), some (.inl w), some (.inl (rl v)), some (.inl 0), some (.inl (cn * 4)), some (.inl (x + 1))]) 33 rfl rfl rfl (w32_id ⟨(by omega), (by omega)⟩) rfl ?_
      refine p_goto 13 rfl rfl ?_
      -- leaf 1: loop 13 [some (.inr (.inr 59)), some (.inl w), some (.inl (rl v)), some (.inl 0), some (.inl (cn * 4)), some (.inl (x + 1))] st=[] h=y1 e1
      refine ih (x + 1) _ (by omega) (by omega) S1 (by rw [e1]; exact k1.sv rfl _) (fun i hi => by rw [e1, sv_nf (by omega)]; exact o i hi) (fun p p0 p1 => ?_)
      rw [e1]
      by_cases y : p = x
      · rw [y, show 4 * cn + x = (cn * 4) + x by omega, sv_eq]
      · rw [sv_nf (by omega)]; exact cells p p0 (by omega)
  refine p_const 1 rfl rfl ?_
  refine p_istore (ls' := [some (.inr (.inr 59)), some (.inl w), some (.inl (rl v)), some (.inl 0), none, none]) 2 rfl rfl (Nat.le_of_ble_eq_true rfl) rfl ?_
  refine p_aload 3 rfl rfl rfl ?_
  refine p_getfi (j := 3) (z := cn) 6 rfl rfl rfl (tg_59 S) rfl hc ?_
  refine p_const 7 rfl rfl ?_
  refine p_imul (z := cn * 4) 8 rfl rfl (w32_id ⟨(by omega), (by omega)⟩) ?_
  refine p_istore (ls' := [some (.inr (.inr 59)), some (.inl w), some (.inl (rl v)), some (.inl 0), some (.inl (cn * 4)), none]) 10 rfl rfl (Nat.le_of_ble_eq_true rfl) rfl ?_
  refine p_const 11 rfl rfl ?_
  refine p_istore (ls' := [some (.inr (.inr 59)), some (.inl w), some (.inl (rl v)), some (.inl 0), some (.inl (cn * 4)), some (.inl 0)]) 13 rfl rfl (Nat.le_of_ble_eq_true rfl) rfl ?_
  -- leaf 1: loop 13 [some (.inr (.inr 59)), some (.inl w), some (.inl (rl v)), some (.inl 0), some (.inl (cn * 4)), some (.inl 0)] st=[] h=h 
  exact J13 4 0 h rfl (Int.le_refl 0) S (Keep.rf _ _) (fun _ _ => rfl) (fun p p0 p1 => by omega)
theorem get_lt' {q : List P4} {j : Nat} {w : P4} (h : q[j]? = some w) : j < q.length := by
  apply Decidable.byContradiction
  intro n
  rw [List.getElem?_eq_none (by omega)] at h
  cases h
theorem wy_shift {v : Int} (g : letters v) : w32 (1 * 2 ^ (rl v - 1).toNat) = wy v := by
  have b := rl_in v
  have gp := rl_pos g.1
  have ra : rl v = if v < 32 then 1 else if v < 1024 then 2 else if v < 32768 then 3 else 4 := by
    unfold rl; (repeat' split) <;> omega
  unfold wy
  rw [ra]
  (repeat' split) <;> rfl
theorem wy_in (v : Int) : 1 ≤ wy v ∧ wy v ≤ 8 := by unfold wy; (repeat' split) <;> omega
theorem CXr.add {h h' : PH} {C : List P4} {x : P4} (X : CXr h C) (l : C.length + 1 ≤ 600) (x4 : x.length = 4) (x40 : ∀ p ∈ x, b40 p) (e3 : gv h' 59 3 = gv h 59 3 + 1) (e60 : ∀ i, i < 4 * (C.length : Int) → gv h' 60 i = gv h 60 i) (en : ∀ p : Nat, p < 4 → gv h' 60 (4 * (C.length : Int) + p) = pad x p) : CXr h' (C ++ [x]) := by
  obtain ⟨a, b, c, f⟩ := X
  refine ⟨by rw [e3, a, List.length_append]; rfl, by rw [List.length_append]; exact l, fun y hy => ?_, fun i y hy => ?_⟩
  · rcases List.mem_append.mp hy with z | z
    · exact c y z
    · rw [List.mem_singleton.mp z]; exact x40
  · by_cases z : i < C.length
    · rw [List.getElem?_append_left z] at hy
      obtain ⟨f1, f2⟩ := f i y hy
      exact ⟨f1, fun p hp => by rw [e60 _ (by omega)]; exact f2 p hp⟩
    · rw [List.getElem?_append_right (by omega)] at hy
      have y0 : i = C.length := by
        apply Decidable.byContradiction
        intro y0
        rw [List.getElem?_eq_none (by show 1 ≤ i - C.length; omega)] at hy
        cases hy
      rw [y0, Nat.sub_self] at hy
      have hy : some x = some y := hy
      cases hy
      rw [y0]
      exact ⟨x4, en⟩
theorem pad_pad4 {l : List Int} (p : Nat) (hp : p < 4) : pad (pad4 l) p = pad l p := by
  rcases (show p = 0 ∨ p = 1 ∨ p = 2 ∨ p = 3 by omega) with rfl | rfl | rfl | rfl <;> rfl
theorem pad_all {l : List Int} {P : Int → Prop} (h0 : P 0) (h : ∀ x ∈ l, P x) (p : Nat) : P (pad l p) := by
  unfold pad
  rw [List.getD_eq_getElem?_getD]
  by_cases z : p < l.length
  · rw [List.getElem?_eq_getElem z]; exact h _ (List.getElem_mem _)
  · rw [List.getElem?_eq_none (by omega)]; exact h0
theorem pad4_all {l : List Int} {P : Int → Prop} (h0 : P 0) (h : ∀ x ∈ l, P x) : ∀ x ∈ pad4 l, P x := by
  intro x hx
  have : x = pad l 0 ∨ x = pad l 1 ∨ x = pad l 2 ∨ x = pad l 3 := by
    have := hx
    unfold pad4 at this
    simpa using this
  rcases this with e | e | e | e <;> rw [e] <;> exact pad_all h0 h _
def acA (a i : Int) : Bool := decide ((a = 59 ∧ i = 3) ∨ a = 60)
theorem x_addCuts {d : Nat} {h : PH} {q : PQ} (S : Shape h) {h0 : PH} {k s t z v : Int} {C : List P4} (X : SplX h h0 k s t z v) (g : letters v) (Y : CXr h C) (hl : C.length + (gat (pfF h0 k s t z v) v (wy v).toNat 0).length ≤ 600)
    (K : ∀ h', (Keep acA h h' ∧ CXr h' (C ++ gat (pfF h0 k s t z v) v (wy v).toNat 0)) → Shape h' → q none h') :
    Wp (d + 3) 0 0 M_X4_addCuts 0 [some (.inr (.inr 59)), none, none] [] h q := by
  have rb := rl_in v
  have gp := g.1
  have wi := wy_in v
  have ws := wy_shift g
  have e4 := X.1
  have J : ∀ (c : Nat) (w : Int) (D : List P4) (h1 : PH), w + c = wy v → 0 ≤ w → C ++ gat (pfF h0 k s t z v) v (wy v).toNat 0 = D ++ gat (pfF h0 k s t z v) v c w → Shape h1 → Keep acA h h1 → CXr h1 D →
      Wp (d + 3) 0 0 M_X4_addCuts 10 [some (.inr (.inr 59)), some (.inl (rl v)), some (.inl w)] [] h1 q := by
    intro c
    induction c with
    | zero =>
      intro w D h1 hw w0 hD S1 k1 Y1
      rw [show gat (pfF h0 k s t z v) v 0 w = [] from rfl, List.append_nil] at hD
      refine p_iload 11 rfl rfl rfl ?_
      refine p_const 12 rfl rfl ?_
      refine p_iload 13 rfl rfl rfl ?_
      refine p_const 14 rfl rfl ?_
      refine p_isub (z := (rl v) - 1) 15 rfl rfl (w32_id ⟨(by omega), (by omega)⟩) ?_
      refine p_ishl (z := w32 (1 * 2 ^ ((rl v) - 1).toNat)) 16 rfl rfl (by omega) (by omega) rfl ?_
      refine p_ic_ge_t 54 rfl rfl (by omega) ?_
      refine p_ret rfl rfl ?_
      -- leaf 1: answer [] h=h1 
      exact K h1 ⟨k1, by rw [hD]; exact Y1⟩ S1
    | succ c ih =>
      intro w D h1 hw w0 hD S1 k1 Y1
      have X1 : SplX h1 h0 k s t z v := X.kp (fun a i z => k1.1 a i (decide_eq_false (by omega)))
      have gu : gat (pfF h0 k s t z v) v (c + 1) w = (if ∀ e ∈ CL w v, pfF h0 k s t z v e ≠ 0 then [pad4 ((CL w v).map (pfF h0 k s t z v))] else []) ++ gat (pfF h0 k s t z v) v c (w + 1) := rfl
      have y3 := Y1.1
      have y6 := Y1.2.1
      have lD : D.length + (gat (pfF h0 k s t z v) v (c + 1) w).length ≤ 600 := by
        have := congrArg List.length hD
        rw [List.length_append, List.length_append] at this
        omega
      have nxt : ∀ (D' : List P4) (h' : PH), C ++ gat (pfF h0 k s t z v) v (wy v).toNat 0 = D' ++ gat (pfF h0 k s t z v) v c (w + 1) → Shape h' → Keep acA h h' → CXr h' D' → Wp (d + 3) 0 0 M_X4_addCuts 48 [some (.inr (.inr 59)), some (.inl (rl v)), some (.inl w)] [] h' q := by
        intro D' h' e' S' k' Y'
        refine p_iinc (y := w + 1) (ls' := [some (.inr (.inr 59)), some (.inl (rl v)), some (.inl (w + 1))]) 51 rfl rfl rfl (w32_id ⟨(by omega), (by omega)⟩) rfl ?_
        refine p_goto 10 rfl rfl ?_
        -- leaf 1: loop 10 [some (.inr (.inr 59)), some (.inl (rl v)), some (.inl (w + 1))] st=[] h=h' 
        exact ih (w + 1) D' h' (by omega) (by omega) e' S' k' Y'
      have none_ : ¬ (∀ e ∈ CL w v, pfF h0 k s t z v e ≠ 0) → C ++ gat (pfF h0 k s t z v) v (wy v).toNat 0 = D ++ gat (pfF h0 k s t z v) v c (w + 1) := fun n => by rw [hD, gu, if_neg n]; rfl
      refine p_iload 11 rfl rfl rfl ?_
      refine p_const 12 rfl rfl ?_
      refine p_iload 13 rfl rfl rfl ?_
      refine p_const 14 rfl rfl ?_
      refine p_isub (z := (rl v) - 1) 15 rfl rfl (w32_id ⟨(by omega), (by omega)⟩) ?_
      refine p_ishl (z := w32 (1 * 2 ^ ((rl v) - 1).toNat)) 16 rfl rfl (by omega) (by omega) rfl ?_
      refine p_ic_ge_f 19 rfl rfl (by omega) ?_
      refine p_aload 20 rfl rfl rfl ?_
      refine p_getfi (j := 3) (z := (D.length : Int)) 23 rfl rfl rfl (tg_59 S1) rfl y3 ?_
      refine p_const 26 rfl rfl ?_
      refine p_ic_ge 29 48 rfl rfl rfl (fun c1 => ?_) (fun c1 => ?_)
      · skip
        -- leaf 1: loop 48 [some (.inr (.inr 59)), some (.inl (rl v)), some (.inl w)] st=[] h=h1 
        refine nxt D h1 (none_ (fun H => ?_)) S1 k1 Y1
        rw [gu, if_pos H, List.length_append] at lD
        have : ([pad4 ((CL w v).map (pfF h0 k s t z v))] : List P4).length = 1 := rfl
        omega
      · skip
        refine p_aload 30 rfl rfl rfl ?_
        refine p_iload 31 rfl rfl rfl ?_
        refine p_iload 32 rfl rfl rfl ?_
        refine p_callv (le := [some (.inr (.inr 59)), some (.inl w), some (.inl (rl v)), none, none, none]) (as := [.inr (.inr 59), .inl w, .inl (rl v)]) (rest := []) 35 0 0 0 0 rfl rfl (Nat.le_of_ble_eq_true rfl) rfl (Nat.le_of_ble_eq_true rfl) rfl rfl (Nat.le_of_ble_eq_true rfl) rfl (Nat.le_of_ble_eq_true rfl) rfl (Nat.le_refl _) (Nat.le_refl _) rfl rfl (tg_59 S1) ?_
        refine x_addCut S1 w X1 g y3 (by omega) (by omega) (by omega) (by omega) (fun r2 y2 p2 S2 => ?_)
        show Wp (d + 3) 0 0 M_X4_addCuts 35 [some (.inr (.inr 59)), some (.inl (rl v)), some (.inl w)] [.inl r2] y2 _
        have f59 : gv y2 59 3 = (D.length : Int) := (p2.1.1 59 3 rfl).trans y3
        refine p_if_eq 38 48 rfl rfl rfl (fun c3 => ?_) (fun c3 => ?_)
        · skip
          -- leaf 2: loop 48 [some (.inr (.inr 59)), some (.inl (rl v)), some (.inl w)] st=[] h=y2 
          obtain ⟨k2, o2, q2⟩ := p2
          rcases q2 with ⟨z0, _⟩ | ⟨_, n⟩
          · omega
          · exact nxt D _ (none_ n) S2 (k1.trans (k2.wide (fun b i z => dw (by omega) z))) ⟨(k2.1 59 3 rfl).trans Y1.1, Y1.2.1, Y1.2.2.1, fun i x hx => ⟨(Y1.2.2.2 i x hx).1, fun p hp => by have := get_lt' hx; rw [o2 _ (Or.inl (by omega))]; exact (Y1.2.2.2 i x hx).2 p hp⟩⟩
        · skip
          refine p_aload 39 rfl rfl rfl ?_
          refine p_dup 40 rfl rfl nl_r ?_
          refine p_getfi (j := 3) (z := gv y2 59 3) 43 rfl rfl rfl (tg_59 S2) rfl rfl ?_
          refine p_const 44 rfl rfl ?_
          refine p_iadd (z := (gv y2 59 3) + 1) 45 rfl rfl (w32_id ⟨(by omega), (by omega)⟩) ?_
          refine p_putfi (j := 3) 48 rfl rfl rfl (fun z => absurd z (by decide)) (tg_59 S2) rfl ?_
          refine p_nmh (fun y4 e4 => ?_)
          have S4 : Shape y4 := by rw [e4]; exact S2.svF ff_59_3 _
          -- leaf 3: loop 48 [some (.inr (.inr 59)), some (.inl (rl v)), some (.inl w)] st=[] h=y4 e4
          obtain ⟨k2, o2, q2⟩ := p2
          rcases q2 with ⟨_, H, cells⟩ | ⟨z0, _⟩
          · have l1 : D.length + 1 ≤ 600 := by omega
            have f4 : ∀ b i, ¬ (b = 59 ∧ i = 3) → gv y4 b i = gv y2 b i := fun b i n => by rw [e4, sv_off (by omega)]
            refine nxt (D ++ [pad4 ((CL w v).map (pfF h0 k s t z v))]) _ ?_ S4 ?_ (Y1.add l1 rfl (pad4_all ⟨by decide, by decide⟩ (fun x hx => ?_)) (by rw [e4, sv_eq, k2.1 59 3 rfl]) (fun i hi => by rw [f4 60 i (by omega)]; exact o2 i (Or.inl hi)) (fun p hp => by rw [f4 60 _ (by omega), pad_pad4 p hp]; exact cells p hp))
            · rw [hD, gu, if_pos H, List.append_assoc]
            · rw [e4]; exact (k1.trans (k2.wide (fun b i z => dw (by omega) z))).sv rfl _
            · obtain ⟨e, he, ee⟩ := List.mem_map.mp hx
              obtain ⟨o1', o2', o3'⟩ := CL_ok e he
              rw [← ee]; exact (X.pf o1' o2' o3').2
          · omega
  refine p_aload 1 rfl rfl rfl ?_
  refine p_getfr (j := 1) (z := 24) 4 rfl rfl rfl (tg_59 S) rfl (fi_59_1 S) ?_
  refine p_getfi (j := 4) (z := (rl v)) 7 rfl rfl rfl (tg_24 S) rfl e4 ?_
  refine p_istore (ls' := [some (.inr (.inr 59)), some (.inl (rl v)), none]) 8 rfl rfl (Nat.le_of_ble_eq_true rfl) rfl ?_
  refine p_const 9 rfl rfl ?_
  refine p_istore (ls' := [some (.inr (.inr 59)), some (.inl (rl v)), some (.inl 0)]) 10 rfl rfl (Nat.le_of_ble_eq_true rfl) rfl ?_
  -- leaf 1: loop 10 [some (.inr (.inr 59)), some (.inl (rl v)), some (.inl 0)] st=[] h=h 
  exact J (wy v).toNat 0 C h (by omega) (Int.le_refl 0) rfl S (Keep.rf _ _) Y

