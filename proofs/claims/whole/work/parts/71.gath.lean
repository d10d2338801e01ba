/-! CUTS of the hoists that the other side reads, the model's side -/
def CMr (h : PH) (C : List P4) : Prop := gv h 66 85 = C.length ∧ C.length ≤ 600 ∧ (∀ c ∈ C, ∀ p ∈ c, b40 p) ∧ ∀ (c : Nat) (x : P4), C[c]? = some x → x.length = 4 ∧ ∀ p : Nat, p < 4 → gv h 126 (4 * (c : Int) + p) = pad x p
theorem CMr.kp {h h' : PH} {C : List P4} (X : CMr h C) (e3 : gv h' 66 85 = gv h 66 85) (e60 : ∀ i, gv h' 126 i = gv h 126 i) : CMr h' C := ⟨e3.trans X.1, X.2.1, X.2.2.1, fun c x hx => ⟨(X.2.2.2 c x hx).1, fun p hp => (e60 _).trans ((X.2.2.2 c x hx).2 p hp)⟩⟩
theorem CMr.add {h h' : PH} {C : List P4} {x : P4} (X : CMr h C) (l : C.length + 1 ≤ 600) (x4 : x.length = 4) (x40 : ∀ p ∈ x, b40 p) (e3 : gv h' 66 85 = gv h 66 85 + 1) (e60 : ∀ i, i < 4 * (C.length : Int) → gv h' 126 i = gv h 126 i) (en : ∀ p : Nat, p < 4 → gv h' 126 (4 * (C.length : Int) + p) = pad x p) : CMr h' (C ++ [x]) := by
  obtain ⟨a, b, c, f⟩ := X
  refine ⟨by rw [e3, a, List.length_append]; rfl, by rw [List.length_append]; exact l, fun y hy => ?_, fun i y hy => ?_⟩
  · rcases List.mem_append.mp hy with z | z
    · exact c y z
    · rw [List.mem_singleton.mp z]; exact x40
  · by_cases z : i < C.length
    · rw [List.getElem?_append_left z] at hy
      obtain ⟨f1, f2⟩ := f i y hy
      exact ⟨f1, fun p hp => by rw [e60 _ (by omega)]; exact f2 p hp⟩
    · rw [List.getElem?_append_right (by omega)] at hy
      have y0 : i = C.length := by
        apply Decidable.byContradiction
        intro y0
        rw [List.getElem?_eq_none (by show 1 ≤ i - C.length; omega)] at hy
        cases hy
      rw [y0, Nat.sub_self] at hy
      have hy : some x = some y := hy
      cases hy
      rw [y0]
      exact ⟨x4, en⟩
theorem PM.pf {h h0 : PH} {k s t z v w : Int} (pm : PM h (Us h0 k s t z) v (CL w v)) (al : ∀ e ∈ CL w v, ∃ id, Us h0 k s t z (sub v (rl v) e.1 e.2) id) (n40 : gv h0 79 k ≤ 40) : gv h 66 56 = (CL w v).length ∧ (∀ p : Nat, p < (CL w v).length → gv h 104 p = pad ((CL w v).map (pfF h0 k s t z v)) p) ∧ (∀ e ∈ CL w v, pfF h0 k s t z v e ≠ 0 ∧ b40 (pfF h0 k s t z v e)) := by
  have eq : ∀ (i : Nat) e, (CL w v)[i]? = some e → gv h 104 i = pfF h0 k s t z v e ∧ b40 (gv h 104 i) := fun i e he => by
    obtain ⟨b, f⟩ := pm.2 i e he
    exact ⟨bsN_eq b f, b⟩
  refine ⟨pm.1, fun p hp => ?_, fun e he => ?_⟩
  · unfold pad
    rw [List.getD_eq_getElem?_getD, List.getElem?_map, List.getElem?_eq_getElem hp]
    exact (eq p _ (List.getElem?_eq_getElem hp)).1
  · obtain ⟨i, hi, ee⟩ := List.getElem_of_mem he
    have y := eq i e (by rw [← ee]; exact List.getElem?_eq_getElem hi)
    refine ⟨?_, by rw [← y.1]; exact y.2⟩
    obtain ⟨id, hid⟩ := al e he
    rw [← y.1]
    have i40 : 0 ≤ id ∧ id < 40 := by have := hid.1; have := hid.2.1; omega
    exact (b40_ne y.2).2 ⟨id, i40.1, i40.2, ((pm.2 i e (by rw [← ee]; exact List.getElem?_eq_getElem hi)).2 id i40.1 i40.2).2 hid⟩
theorem pf_none {h0 : PH} {k s t z v : Int} {e : Int × Int} (n : ∀ id, ¬ Us h0 k s t z (sub v (rl v) e.1 e.2) id) : pfF h0 k s t z v e = 0 := by
  apply Classical.byContradiction
  intro y
  obtain ⟨j, hj⟩ := (bsN_b _).2 y
  exact n j hj
def gaA (a i : Int) : Bool := decide ((a = 66 ∧ (i = 56 ∨ i = 85)) ∨ a = 104 ∨ a = 126)
theorem ctA_gaA : ∀ a i, gaA a i = false → ctA a i = false := fun a i => dw (by omega)
theorem gaA_bkB : ∀ a i, bkB a i = false → gaA a i = false := fun a i => dw (by omega)
theorem gaA_open : ∀ a i, bkB a i = false ∨ (a = 66 ∧ i = 49) ∨ a = 100 ∨ a = 101 → gaA a i = false := fun a i z => decide_eq_false (fun y => by
  rcases z with z | z
  · exact of_decide_eq_false z (by omega)
  · omega)
theorem m_gathers {d : Nat} {h : PH} {q : PQ} (S : Shape h) (v : Int) {h0 : PH} {k s t z : Int} {C : List P4} (K0 : Keep bkB h0 h) (g : letters v) (O : Open h k s t z) (k0 : 0 ≤ k) (k1 : k ≤ 200) (n0 : 0 ≤ gv h 79 k) (n40 : gv h 79 k ≤ 40) (tv01 : tvs h k s t z) (Y : CMr h C) (hl : C.length + (gat (pfF h0 k s t z v) v (wy v).toNat 0).length ≤ 600)
    (K : ∀ h', (Keep gaA h h' ∧ CMr h' (C ++ gat (pfF h0 k s t z v) v (wy v).toNat 0)) → Shape h' → q none h') :
    Wp (d + 3) 0 0 M_X12_gathers 0 [some (.inr (.inr 66)), some (.inl v), none, none] [] h q := by
  have rb := rl_in v
  have gp := g.1
  have wi := wy_in v
  have J : ∀ (c : Nat) (w : Int) (w3 : Option PV) (D : List P4) (h1 : PH), w + c = wy v → 0 ≤ w → C ++ gat (pfF h0 k s t z v) v (wy v).toNat 0 = D ++ gat (pfF h0 k s t z v) v c w → Shape h1 → Keep gaA h h1 → CMr h1 D →
      Wp (d + 3) 0 0 M_X12_gathers 2 [some (.inr (.inr 66)), some (.inl v), some (.inl w), w3] [] h1 q := by
    intro c
    induction c with
    | zero =>
      intro w w3 D h1 hw w0 hD S1 k1' Y1
      rw [show gat (pfF h0 k s t z v) v 0 w = [] from rfl, List.append_nil] at hD
      refine p_iload 3 rfl rfl rfl ?_
      refine p_iload 4 rfl rfl rfl ?_
      refine p_calls (le := [some (.inl v)]) (as := [.inl v]) (rest := [.inl w]) 7 0 0 0 0 rfl rfl (Nat.le_of_ble_eq_true rfl) rfl (Nat.le_of_ble_eq_true rfl) rfl rfl (Nat.le_of_ble_eq_true rfl) rfl (Nat.le_of_ble_eq_true rfl) rfl (Nat.le_refl _) (Nat.le_refl _) rfl rfl ?_
      refine m_waysOf S1 v ?_
      show Wp (d + 3) 0 0 M_X12_gathers 7 [some (.inr (.inr 66)), some (.inl v), some (.inl w), w3] [.inl (wy v), .inl w] h1 _
      refine p_ic_ge_t 83 rfl rfl (by omega) ?_
      refine p_ret rfl rfl ?_
      -- leaf 1: answer [] h=h1 
      exact K h1 ⟨k1', by rw [hD]; exact Y1⟩ S1
    | succ c ih =>
      intro w w3 D h1 hw w0 hD S1 k1' Y1
      have kB := k1'.wide gaA_bkB
      have O1 := O.kp k1' gaA_open
      have n1 : gv h1 79 k = gv h 79 k := kB.1 79 k rfl
      have n2 : gv h0 79 k = gv h 79 k := (K0.1 79 k rfl).symm
      have T1 : Wt h1 k s t z 0 = Us h0 k s t z := by rw [Wt_congr kB, Wt_congr K0, Wt_0]
      have gu : gat (pfF h0 k s t z v) v (c + 1) w = (if ∀ e ∈ CL w v, pfF h0 k s t z v e ≠ 0 then [pad4 ((CL w v).map (pfF h0 k s t z v))] else []) ++ gat (pfF h0 k s t z v) v c (w + 1) := rfl
      have y3 := Y1.1
      have y6 := Y1.2.1
      have lD : D.length + (gat (pfF h0 k s t z v) v (c + 1) w).length ≤ 600 := by
        have := congrArg List.length hD
        rw [List.length_append, List.length_append] at this
        omega
      have nxt : ∀ (w3 : Option PV) (D' : List P4) (h' : PH), C ++ gat (pfF h0 k s t z v) v (wy v).toNat 0 = D' ++ gat (pfF h0 k s t z v) v c (w + 1) → Shape h' → Keep gaA h h' → CMr h' D' → Wp (d + 3) 0 0 M_X12_gathers 77 [some (.inr (.inr 66)), some (.inl v), some (.inl w), w3] [] h' q := by
        intro w3 D' h' e' S' k' Y'
        refine p_iinc (y := w + 1) (ls' := [some (.inr (.inr 66)), some (.inl v), some (.inl (w + 1)), w3]) 80 rfl rfl rfl (w32_id ⟨(by omega), (by omega)⟩) rfl ?_
        refine p_goto 2 rfl rfl ?_
        -- leaf 1: loop 2 [some (.inr (.inr 66)), some (.inl v), some (.inl (w + 1)), w3] st=[] h=h' 
        exact ih (w + 1) _ D' h' (by omega) (by omega) e' S' k' Y'
      have none_ : ¬ (∀ e ∈ CL w v, pfF h0 k s t z v e ≠ 0) → C ++ gat (pfF h0 k s t z v) v (wy v).toNat 0 = D ++ gat (pfF h0 k s t z v) v c (w + 1) := fun n => by rw [hD, gu, if_neg n]; rfl
      have J25 : ∀ (m : Nat) (x : Int) (h2 : PH), (∀ e ∈ CL w v, pfF h0 k s t z v e ≠ 0) → (∀ e ∈ CL w v, b40 (pfF h0 k s t z v e)) → x + m = 4 → 0 ≤ x → Shape h2 → Keep gaA h h2 → gv h2 66 85 = D.length → gv h2 66 56 = (CL w v).length → (∀ p : Nat, p < (CL w v).length → gv h2 104 p = pad ((CL w v).map (pfF h0 k s t z v)) p) → (∀ i, i < 4 * (D.length : Int) → gv h2 126 i = gv h1 126 i) → (∀ p : Nat, (p : Int) < x → gv h2 126 (4 * (D.length : Int) + p) = pad ((CL w v).map (pfF h0 k s t z v)) p) →
          Wp (d + 3) 0 0 M_X12_gathers 25 [some (.inr (.inr 66)), some (.inl v), some (.inl w), some (.inl x)] [] h2 q := by
        intro m
        have l1 : (∀ e ∈ CL w v, pfF h0 k s t z v e ≠ 0) → D.length + 1 ≤ 600 := fun H => by
          rw [gu, if_pos H, List.length_append] at lD
          have : ([pad4 ((CL w v).map (pfF h0 k s t z v))] : List P4).length = 1 := rfl
          omega
        induction m with
        | zero =>
          intro x h2 H H40 hx x0 S2 k2 b85 b56 b104 o126 c126
          have l1 := l1 H
          refine p_iload 26 rfl rfl rfl ?_
          refine p_const 27 rfl rfl ?_
          refine p_ic_ge_t 67 rfl rfl (by omega) ?_
          refine p_aload 68 rfl rfl rfl ?_
          refine p_dup 69 rfl rfl nl_r ?_
          refine p_getfi (j := 85) (z := (D.length : Int)) 72 rfl rfl rfl (tg_66 S2) rfl b85 ?_
          refine p_const 73 rfl rfl ?_
          refine p_iadd (z := (D.length : Int) + 1) 74 rfl rfl (w32_id ⟨(by omega), (by omega)⟩) ?_
          refine p_putfi (j := 85) 77 rfl rfl rfl (fun z => absurd z (by decide)) (tg_66 S2) rfl ?_
          refine p_nmh (fun y1 e1 => ?_)
          have S1 : Shape y1 := by rw [e1]; exact S2.svF ff_66_85 _
          -- leaf 1: loop 77 [some (.inr (.inr 66)), some (.inl v), some (.inl w), some (.inl x)] st=[] h=y1 e1
          refine nxt _ (D ++ [pad4 ((CL w v).map (pfF h0 k s t z v))]) _ ?_ S1 (by rw [e1]; exact k2.sv rfl _) (Y1.add l1 rfl (pad4_all ⟨by decide, by decide⟩ (fun x hx => ?_)) (by rw [e1, sv_eq, y3]) (fun i hi => by rw [e1, sv_ne (by decide)]; exact o126 i hi) (fun p hp => by rw [e1, sv_ne (by decide), pad_pad4 p hp]; exact c126 p (by omega)))
          · rw [hD, gu, if_pos H, List.append_assoc]
          · obtain ⟨e, he, ee⟩ := List.mem_map.mp hx
            rw [← ee]; exact H40 e he
        | succ m ihm =>
          intro x h2 H H40 hx x0 S2 k2 b85 b56 b104 o126 c126
          have l1 := l1 H
          have cl4 := CL_len w v
          have pout : (CL w v).length ≤ x.toNat → pad ((CL w v).map (pfF h0 k s t z v)) x.toNat = 0 := fun y => by
            unfold pad
            rw [List.getD_eq_getElem?_getD, List.getElem?_eq_none (by rw [List.length_map]; exact y)]; rfl
          have fin : ∀ (u : Int) (h3 : PH), u = pad ((CL w v).map (pfF h0 k s t z v)) x.toNat → h3 = sv h2 126 (4 * (D.length : Int) + x) u → Shape h3 → Wp (d + 3) 0 0 M_X12_gathers 25 [some (.inr (.inr 66)), some (.inl v), some (.inl w), some (.inl (x + 1))] [] h3 q := by
            intro u h3 hu e3 S3
            refine ihm (x + 1) h3 H H40 (by omega) (by omega) S3 (by rw [e3]; exact k2.sv rfl _) (by rw [e3, sv_ne (by decide)]; exact b85) (by rw [e3, sv_ne (by decide)]; exact b56) (fun p hp => by rw [e3, sv_ne (by decide)]; exact b104 p hp) (fun i hi => by rw [e3, sv_nf (by omega)]; exact o126 i hi) (fun p hp => ?_)
            rw [e3]
            by_cases y : (p : Int) = x
            · rw [y, sv_eq, hu, ← y, Int.toNat_natCast]
            · rw [sv_nf (by omega)]; exact c126 p (by omega)
          refine p_iload 26 rfl rfl rfl ?_
          refine p_const 27 rfl rfl ?_
          refine p_ic_ge_f 30 rfl rfl (by omega) ?_
          refine p_aload 31 rfl rfl rfl ?_
          refine p_getfr (j := 86) (z := 126) 34 rfl rfl rfl (tg_66 S2) rfl (fi_66_86 S2) ?_
          refine p_const 35 rfl rfl ?_
          refine p_aload 36 rfl rfl rfl ?_
          refine p_getfi (j := 85) (z := (D.length : Int)) 39 rfl rfl rfl (tg_66 S2) rfl b85 ?_
          refine p_imul (z := 4 * (D.length : Int)) 40 rfl rfl (w32_id ⟨(by omega), (by omega)⟩) ?_
          refine p_iload 41 rfl rfl rfl ?_
          refine p_iadd (z := (4 * (D.length : Int)) + x) 42 rfl rfl (w32_id ⟨(by omega), (by omega)⟩) ?_
          refine p_iload 43 rfl rfl rfl ?_
          refine p_aload 44 rfl rfl rfl ?_
          refine p_getfi (j := 56) (z := ((CL w v).length : Int)) 47 rfl rfl rfl (tg_66 S2) rfl b56 ?_
          refine p_ic_ge 50 59 rfl rfl rfl (fun c1 => ?_) (fun c1 => ?_)
          · skip
            refine p_lconst 60 rfl rfl ?_
            refine p_last (w := 6400) 61 rfl rfl (by decide) (tg_126 S2) (ln_126 S2) (by omega) (by omega) ?_
            refine p_nmh (fun y2 e2 => ?_)
            have S2 : Shape y2 := by rw [e2]; exact S2.svA fa_126 _ _
            refine p_iinc (y := x + 1) (ls' := [some (.inr (.inr 66)), some (.inl v), some (.inl w), some (.inl (x + 1))]) 64 rfl rfl rfl (w32_id ⟨(by omega), (by omega)⟩) rfl ?_
            refine p_goto 25 rfl rfl ?_
            -- leaf 1: loop 25 [some (.inr (.inr 66)), some (.inl v), some (.inl w), some (.inl (x + 1))] st=[] h=y2 e2
            exact fin 0 _ (pout (by omega)).symm e2 S2
          · skip
            refine p_aload 51 rfl rfl rfl ?_
            refine p_getfr (j := 55) (z := 104) 54 rfl rfl rfl (tg_66 S2) rfl (fi_66_55 S2) ?_
            refine p_iload 55 rfl rfl rfl ?_
            refine p_lald (w := 4) (z := gv h2 104 x) 56 rfl rfl (tg_104 S2) (ln_104 S2) (by omega) (by omega) rfl ?_
            refine p_goto 60 rfl rfl ?_
            refine p_last (w := 6400) 61 rfl rfl (by decide) (tg_126 S2) (ln_126 S2) (by omega) (by omega) ?_
            refine p_nmh (fun y3 e3 => ?_)
            have S3 : Shape y3 := by rw [e3]; exact S2.svA fa_126 _ _
            refine p_iinc (y := x + 1) (ls' := [some (.inr (.inr 66)), some (.inl v), some (.inl w), some (.inl (x + 1))]) 64 rfl rfl rfl (w32_id ⟨(by omega), (by omega)⟩) rfl ?_
            refine p_goto 25 rfl rfl ?_
            -- leaf 2: loop 25 [some (.inr (.inr 66)), some (.inl v), some (.inl w), some (.inl (x + 1))] st=[] h=y3 e3
            exact fin _ _ (by have y := b104 x.toNat (by omega); rw [Int.toNat_of_nonneg x0] at y; exact y) e3 S3
      refine p_iload 3 rfl rfl rfl ?_
      refine p_iload 4 rfl rfl rfl ?_
      refine p_calls (le := [some (.inl v)]) (as := [.inl v]) (rest := [.inl w]) 7 0 0 0 0 rfl rfl (Nat.le_of_ble_eq_true rfl) rfl (Nat.le_of_ble_eq_true rfl) rfl rfl (Nat.le_of_ble_eq_true rfl) rfl (Nat.le_of_ble_eq_true rfl) rfl (Nat.le_refl _) (Nat.le_refl _) rfl rfl ?_
      refine m_waysOf S1 v ?_
      show Wp (d + 3) 0 0 M_X12_gathers 7 [some (.inr (.inr 66)), some (.inl v), some (.inl w), w3] [.inl (wy v), .inl w] h1 _
      refine p_ic_ge_f 10 rfl rfl (by omega) ?_
      refine p_aload 11 rfl rfl rfl ?_
      refine p_iload 12 rfl rfl rfl ?_
      refine p_iload 13 rfl rfl rfl ?_
      refine p_const 14 rfl rfl ?_
      refine p_callv (le := [some (.inr (.inr 66)), some (.inl v), some (.inl w), some (.inl 0), none, none, none, none, none, none, none]) (as := [.inr (.inr 66), .inl v, .inl w, .inl 0]) (rest := []) 17 0 0 0 0 rfl rfl (Nat.le_of_ble_eq_true rfl) rfl (Nat.le_of_ble_eq_true rfl) rfl rfl (Nat.le_of_ble_eq_true rfl) rfl (Nat.le_of_ble_eq_true rfl) rfl (Nat.le_refl _) (Nat.le_refl _) rfl rfl (tg_66 S1) ?_
      refine m_cuts S1 v w 0 g O1 k0 k1 (by omega) (by omega) (tv01.kp kB) (fun r2 y2 p2 S2 => ?_)
      show Wp (d + 3) 0 0 M_X12_gathers 17 [some (.inr (.inr 66)), some (.inl v), some (.inl w), w3] [.inl r2] y2 _
      refine p_if_ne 20 23 rfl rfl rfl (fun c3 => ?_) (fun c3 => ?_)
      · skip
        refine p_const 24 rfl rfl ?_
        refine p_istore (ls' := [some (.inr (.inr 66)), some (.inl v), some (.inl w), some (.inl 0)]) 25 rfl rfl (Nat.le_of_ble_eq_true rfl) rfl ?_
        -- leaf 1: loop 25 [some (.inr (.inr 66)), some (.inl v), some (.inl w), some (.inl 0)] st=[] h=y2 
        obtain ⟨k2, cr⟩ := p2
        rw [T1] at cr
        rcases cr with ⟨_, pm, al⟩ | ⟨e, _⟩
        · obtain ⟨q1, q2, q3⟩ := pm.pf al (by omega)
          exact J25 4 0 _ (fun e he => (q3 e he).1) (fun e he => (q3 e he).2) rfl (Int.le_refl 0) S2 (k1'.trans (k2.wide ctA_gaA)) ((k2.1 66 85 rfl).trans y3) q1 q2 (fun i _ => k2.1 126 i rfl) (fun p hp => by omega)
        · omega
      · skip
        refine p_goto 77 rfl rfl ?_
        -- leaf 2: loop 77 [some (.inr (.inr 66)), some (.inl v), some (.inl w), w3] st=[] h=y2 
        obtain ⟨k2, cr⟩ := p2
        rw [T1] at cr
        rcases cr with ⟨e, _⟩ | ⟨_, e, he, n⟩
        · omega
        · exact nxt _ D _ (none_ (fun H => H e he (pf_none n))) S2 (k1'.trans (k2.wide ctA_gaA)) (Y1.kp (k2.1 66 85 rfl) (fun i => k2.1 126 i rfl))
  refine p_const 1 rfl rfl ?_
  refine p_istore (ls' := [some (.inr (.inr 66)), some (.inl v), some (.inl 0), none]) 2 rfl rfl (Nat.le_of_ble_eq_true rfl) rfl ?_
  -- leaf 1: loop 2 [some (.inr (.inr 66)), some (.inl v), some (.inl 0), none] st=[] h=h 
  exact J (wy v).toNat 0 _ C h (by omega) (Int.le_refl 0) rfl S (Keep.rf _ _) Y
theorem mis_zero {p s : Int} {T : List Int} (bp : b40 p) (e : setL s T) : an64 p (xo64 s (-1)) = 0 ↔ ∀ j, 0 ≤ j → j < 40 → bit p j = 1 → j ∈ T := by
  have mb := misN_bits bp e.1
  have z : an64 p (xo64 s (-1)) = 0 ↔ ¬ ∃ x, 0 ≤ x ∧ x < 40 ∧ bit (misN p s) x = 1 := by
    have y := b40_ne mb.1
    constructor
    · intro a b; exact y.2 b a
    · intro a
      apply Classical.byContradiction
      intro b; exact a (y.1 b)
  rw [z]
  constructor
  · intro n j j0 j1 b
    rw [← e.2 j j0 j1]
    apply Classical.byContradiction
    intro y
    exact n ⟨j, j0, j1, (mb.2 j j0).2 ⟨b, y⟩⟩
  · rintro H ⟨j, j0, j1, b⟩
    obtain ⟨b1, b2⟩ := (mb.2 j j0).1 b
    exact b2 ((e.2 j j0 j1).2 (H j j0 j1 b1))
theorem m_hits {d : Nat} {h : PH} {q : PQ} (S : Shape h) (s : Int) {C : List P4} {T : List Int} (X : CMr h C) (e : setL s T) (K1 : hitsL C T → q (some (.inl 1)) h) (K2 : ¬ hitsL C T → q (some (.inl 0)) h) :
    Wp (d + 1) 0 0 M_X12_hits 0 [some (.inr (.inr 66)), some (.inr (.inl s)), none, none, none, none] [] h q := by
  obtain ⟨x1, x2, x3, x4⟩ := X
  have L : ∀ (c n : Nat) (i : Int) (w4 w5 : Option PV), i = n → n + c = C.length → (∀ (j : Nat) (x : P4), j < n → C[j]? = some x → ∃ p ∈ x, p ≠ 0 ∧ ∀ j, 0 ≤ j → j < 40 → bit p j = 1 → j ∈ T) → Wp (d + 1) 0 0 M_X12_hits 2 [some (.inr (.inr 66)), some (.inr (.inl s)), none, some (.inl i), w4, w5] [] h q := by
    intro c
    induction c with
    | zero =>
      intro n i w4 w5 hi hn al
      refine p_iload 3 rfl rfl rfl ?_
      refine p_aload 4 rfl rfl rfl ?_
      refine p_getfi (j := 85) (z := (C.length : Int)) 7 rfl rfl rfl (tg_66 S) rfl x1 ?_
      refine p_ic_ge_t 91 rfl rfl (by omega) ?_
      refine p_const 92 rfl rfl ?_
      refine p_zret rfl rfl (by decide) ?_
      -- leaf 1: answer [.inl 1] h=h 
      refine K1 (fun x hx => ?_)
      obtain ⟨j, hj, e⟩ := List.getElem_of_mem hx
      exact al j x (by omega) (by rw [← e]; exact List.getElem?_eq_getElem hj)
    | succ c ih =>
      intro n i w4 w5 hi hn al
      have hC : C[n]? = some (C[n]'(by omega)) := List.getElem?_eq_getElem (by omega)
      generalize C[n]'(by omega) = x at hC
      obtain ⟨xl, xc⟩ := x4 n x hC
      have x40 : ∀ p ∈ x, b40 p := x3 x (List.mem_of_getElem? hC)
      have J : ∀ (m k : Nat) (y can : Int), y = k → k + m = 4 → tru can (∃ p : Nat, p < k ∧ pad x p ≠ 0 ∧ ∀ j, 0 ≤ j → j < 40 → bit (pad x p) j = 1 → j ∈ T) → Wp (d + 1) 0 0 M_X12_hits 16 [some (.inr (.inr 66)), some (.inr (.inl s)), none, some (.inl i), some (.inl can), some (.inl y)] [] h q := by
        intro m
        induction m with
        | zero =>
          intro k y can hy hk tb
          have tb4 : tru can (∃ p : Nat, p < 4 ∧ pad x p ≠ 0 ∧ ∀ j, 0 ≤ j → j < 40 → bit (pad x p) j = 1 → j ∈ T) := by rw [show k = 4 by omega] at tb; exact tb
          refine p_iload 18 rfl rfl rfl ?_
          refine p_const 19 rfl rfl ?_
          refine p_ic_ge_t 78 rfl rfl (by omega) ?_
          refine p_iload 80 rfl rfl rfl ?_
          refine p_if_ne 83 85 rfl rfl rfl (fun c1 => ?_) (fun c1 => ?_)
          · skip
            refine p_iinc (y := i + 1) (ls' := [some (.inr (.inr 66)), some (.inr (.inl s)), none, some (.inl (i + 1)), some (.inl can), some (.inl y)]) 88 rfl rfl rfl (w32_id ⟨(by omega), (by omega)⟩) rfl ?_
            refine p_goto 2 rfl rfl ?_
            -- leaf 1: loop 2 [some (.inr (.inr 66)), some (.inr (.inl s)), none, some (.inl (i + 1)), some (.inl can), some (.inl y)] st=[] h=h 
            refine ih (n + 1) (i + 1) _ _ (by omega) (by omega) (fun j z hj hz => ?_)
            by_cases ee : j = n
            · rw [ee, hC] at hz
              cases hz
              rcases tb4 with ⟨_, p, hp, o⟩ | ⟨z0, _⟩
              · refine ⟨pad x p, ?_, o⟩
                unfold pad
                rw [List.getD_eq_getElem?_getD, List.getElem?_eq_getElem (by omega)]
                exact List.getElem_mem _
              · omega
            · exact al j z (by omega) hz
          · skip
            refine p_const 84 rfl rfl ?_
            refine p_zret rfl rfl (by decide) ?_
            -- leaf 2: answer [.inl 0] h=h 
            refine K2 (fun H => ?_)
            obtain ⟨p, hp, o⟩ := H x (List.mem_of_getElem? hC)
            rcases tb4 with ⟨z, _⟩ | ⟨_, nb⟩
            · omega
            · obtain ⟨j, hj, e⟩ := List.getElem_of_mem hp
              have pj : pad x j = p := by
                unfold pad
                rw [List.getD_eq_getElem?_getD, List.getElem?_eq_getElem hj]; exact e
              exact nb ⟨j, by omega, by rw [pj]; exact o⟩
        | succ m ihm =>
          intro k y can hy hk tb
          have e126 : gv h 126 (4 * i + y) = pad x k := by rw [hi, hy]; exact xc k (by omega)
          have bp : b40 (pad x k) := by
            unfold pad
            rw [List.getD_eq_getElem?_getD, List.getElem?_eq_getElem (by omega)]
            exact x40 _ (List.getElem_mem _)
          have mz := mis_zero bp e
          have yes : ∀ can' : Int, can' = 1 → (can ≠ 0 ∨ (pad x k ≠ 0 ∧ ∀ j, 0 ≤ j → j < 40 → bit (pad x k) j = 1 → j ∈ T)) → Wp (d + 1) 0 0 M_X12_hits 16 [some (.inr (.inr 66)), some (.inr (.inl s)), none, some (.inl i), some (.inl can'), some (.inl (y + 1))] [] h q := by
            intro can' c1 z
            refine ihm (k + 1) (y + 1) can' (by omega) (by omega) (Or.inl ⟨c1, ?_⟩)
            rcases z with z | z
            · rcases tb with ⟨_, p, hp, o⟩ | ⟨z0, _⟩
              · exact ⟨p, by omega, o⟩
              · exact absurd z0 z
            · exact ⟨k, by omega, z⟩
          have nope : ∀ can' : Int, can' = 0 → can = 0 → ¬ (pad x k ≠ 0 ∧ ∀ j, 0 ≤ j → j < 40 → bit (pad x k) j = 1 → j ∈ T) → Wp (d + 1) 0 0 M_X12_hits 16 [some (.inr (.inr 66)), some (.inr (.inl s)), none, some (.inl i), some (.inl can'), some (.inl (y + 1))] [] h q := by
            intro can' c1 c0 z
            refine ihm (k + 1) (y + 1) can' (by omega) (by omega) (Or.inr ⟨c1, fun ⟨p, hp, o⟩ => ?_⟩)
            rcases tb with ⟨t, _⟩ | ⟨_, t⟩
            · omega
            · by_cases ee : p = k
              · rw [ee] at o; exact z o
              · exact t ⟨p, by omega, o⟩
          refine p_iload 18 rfl rfl rfl ?_
          refine p_const 19 rfl rfl ?_
          refine p_ic_ge_f 22 rfl rfl (by omega) ?_
          refine p_iload 24 rfl rfl rfl ?_
          refine p_if_ne 27 65 rfl rfl rfl (fun c1 => ?_) (fun c1 => ?_)
          · skip
            refine p_const 66 rfl rfl ?_
            refine p_goto 70 rfl rfl ?_
            refine p_istore (ls' := [some (.inr (.inr 66)), some (.inr (.inl s)), none, some (.inl i), some (.inl 1), some (.inl y)]) 72 rfl rfl (Nat.le_of_ble_eq_true rfl) rfl ?_
            refine p_iinc (y := y + 1) (ls' := [some (.inr (.inr 66)), some (.inr (.inl s)), none, some (.inl i), some (.inl 1), some (.inl (y + 1))]) 75 rfl rfl rfl (w32_id ⟨(by omega), (by omega)⟩) rfl ?_
            refine p_goto 16 rfl rfl ?_
            -- leaf 1: loop 16 [some (.inr (.inr 66)), some (.inr (.inl s)), none, some (.inl i), some (.inl 1), some (.inl (y + 1))] st=[] h=h 
            exact yes 1 rfl (Or.inl (by assumption))
          · skip
            refine p_aload 28 rfl rfl rfl ?_
            refine p_getfr (j := 86) (z := 126) 31 rfl rfl rfl (tg_66 S) rfl (fi_66_86 S) ?_
            refine p_const 32 rfl rfl ?_
            refine p_iload 33 rfl rfl rfl ?_
            refine p_imul (z := 4 * i) 34 rfl rfl (w32_id ⟨(by omega), (by omega)⟩) ?_
            refine p_iload 36 rfl rfl rfl ?_
            refine p_iadd (z := (4 * i) + y) 37 rfl rfl (w32_id ⟨(by omega), (by omega)⟩) ?_
            refine p_lald (w := 6400) (z := (pad x k)) 38 rfl rfl (tg_126 S) (ln_126 S) (by omega) (by omega) e126 ?_
            refine p_lconst 39 rfl rfl ?_
            refine p_lc_eq 40 43 69 rfl rfl rfl rfl rfl (fun c2 => ?_) (fun c2 => ?_)
            · skip
              refine p_const 70 rfl rfl ?_
              refine p_istore (ls' := [some (.inr (.inr 66)), some (.inr (.inl s)), none, some (.inl i), some (.inl 0), some (.inl y)]) 72 rfl rfl (Nat.le_of_ble_eq_true rfl) rfl ?_
              refine p_iinc (y := y + 1) (ls' := [some (.inr (.inr 66)), some (.inr (.inl s)), none, some (.inl i), some (.inl 0), some (.inl (y + 1))]) 75 rfl rfl rfl (w32_id ⟨(by omega), (by omega)⟩) rfl ?_
              refine p_goto 16 rfl rfl ?_
              -- leaf 2: loop 16 [some (.inr (.inr 66)), some (.inr (.inl s)), none, some (.inl i), some (.inl 0), some (.inl (y + 1))] st=[] h=h 
              exact nope 0 rfl (by omega) (fun z => z.1 (by assumption))
            · skip
              refine p_aload 44 rfl rfl rfl ?_
              refine p_getfr (j := 86) (z := 126) 47 rfl rfl rfl (tg_66 S) rfl (fi_66_86 S) ?_
              refine p_const 48 rfl rfl ?_
              refine p_iload 49 rfl rfl rfl ?_
              refine p_imul (z := 4 * i) 50 rfl rfl (w32_id ⟨(by omega), (by omega)⟩) ?_
              refine p_iload 52 rfl rfl rfl ?_
              refine p_iadd (z := (4 * i) + y) 53 rfl rfl (w32_id ⟨(by omega), (by omega)⟩) ?_
              refine p_lald (w := 6400) (z := (pad x k)) 54 rfl rfl (tg_126 S) (ln_126 S) (by omega) (by omega) e126 ?_
              refine p_lload 55 rfl rfl rfl ?_
              refine p_lconst 58 rfl rfl ?_
              refine p_lxor (z := xo64 s (-1)) 59 rfl rfl rfl ?_
              refine p_land (z := an64 (pad x k) (xo64 s (-1))) 60 rfl rfl rfl ?_
              refine p_lconst 61 rfl rfl ?_
              refine p_lc_ne 62 65 69 rfl rfl rfl rfl rfl (fun c3 => ?_) (fun c3 => ?_)
              · skip
                refine p_const 70 rfl rfl ?_
                refine p_istore (ls' := [some (.inr (.inr 66)), some (.inr (.inl s)), none, some (.inl i), some (.inl 0), some (.inl y)]) 72 rfl rfl (Nat.le_of_ble_eq_true rfl) rfl ?_
                refine p_iinc (y := y + 1) (ls' := [some (.inr (.inr 66)), some (.inr (.inl s)), none, some (.inl i), some (.inl 0), some (.inl (y + 1))]) 75 rfl rfl rfl (w32_id ⟨(by omega), (by omega)⟩) rfl ?_
                refine p_goto 16 rfl rfl ?_
                -- leaf 3: loop 16 [some (.inr (.inr 66)), some (.inr (.inl s)), none, some (.inl i), some (.inl 0), some (.inl (y + 1))] st=[] h=h 
                exact nope 0 rfl (by omega) (fun z => c3 (mz.2 z.2))
              · skip
                refine p_const 66 rfl rfl ?_
                refine p_goto 70 rfl rfl ?_
                refine p_istore (ls' := [some (.inr (.inr 66)), some (.inr (.inl s)), none, some (.inl i), some (.inl 1), some (.inl y)]) 72 rfl rfl (Nat.le_of_ble_eq_true rfl) rfl ?_
                refine p_iinc (y := y + 1) (ls' := [some (.inr (.inr 66)), some (.inr (.inl s)), none, some (.inl i), some (.inl 1), some (.inl (y + 1))]) 75 rfl rfl rfl (w32_id ⟨(by omega), (by omega)⟩) rfl ?_
                refine p_goto 16 rfl rfl ?_
                -- leaf 4: loop 16 [some (.inr (.inr 66)), some (.inr (.inl s)), none, some (.inl i), some (.inl 1), some (.inl (y + 1))] st=[] h=h 
                exact yes 1 rfl (Or.inr ⟨by assumption, mz.1 (by omega)⟩)
      refine p_iload 3 rfl rfl rfl ?_
      refine p_aload 4 rfl rfl rfl ?_
      refine p_getfi (j := 85) (z := (C.length : Int)) 7 rfl rfl rfl (tg_66 S) rfl x1 ?_
      refine p_ic_ge_f 10 rfl rfl (by omega) ?_
      refine p_const 11 rfl rfl ?_
      refine p_istore (ls' := [some (.inr (.inr 66)), some (.inr (.inl s)), none, some (.inl i), some (.inl 0), w5]) 13 rfl rfl (Nat.le_of_ble_eq_true rfl) rfl ?_
      refine p_const 14 rfl rfl ?_
      refine p_istore (ls' := [some (.inr (.inr 66)), some (.inr (.inl s)), none, some (.inl i), some (.inl 0), some (.inl 0)]) 16 rfl rfl (Nat.le_of_ble_eq_true rfl) rfl ?_
      -- leaf 1: loop 16 [some (.inr (.inr 66)), some (.inr (.inl s)), none, some (.inl i), some (.inl 0), some (.inl 0)] st=[] h=h 
      exact J 4 0 0 0 rfl rfl (Or.inr ⟨rfl, fun ⟨p, hp, _⟩ => by omega⟩)
  refine p_const 1 rfl rfl ?_
  refine p_istore (ls' := [some (.inr (.inr 66)), some (.inr (.inl s)), none, some (.inl 0), none, none]) 2 rfl rfl (Nat.le_of_ble_eq_true rfl) rfl ?_
  -- leaf 1: loop 2 [some (.inr (.inr 66)), some (.inr (.inl s)), none, some (.inl 0), none, none] st=[] h=h 
  exact L C.length 0 0 _ _ rfl (by omega) (fun j x hj => by omega)

