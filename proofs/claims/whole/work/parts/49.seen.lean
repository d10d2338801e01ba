/-! SEEN: what a hoist may be, class's side -/
/-- the sign y, seen at dm, may be x -/
def MB (h : PH) (dm y x : Int) : Prop := x = y ∨ ((1 ≤ x ∧ x ≤ 26) ∧ (1 ≤ y ∧ y ≤ 26) ∧ 0 < gv h 88 ((y - 1) * 26 + (x - 1)) ∧ gv h 88 ((y - 1) * 26 + (x - 1)) ≤ dm)
theorem MB.in {h : PH} {dm y x : Int} (m : MB h dm y x) (y1 : 1 ≤ y) (y2 : y ≤ 29) : 1 ≤ x ∧ x ≤ 29 := by unfold MB at m; omega
theorem MB_congr {h h' : PH} (K : Keep bkB h h') (dm y x : Int) : MB h' dm y x ↔ MB h dm y x := by
  unfold MB
  rw [K.1 88 _ rfl]
theorem cntA_mono (h : PH) (a f : Int) : ∀ (m n : Nat), n ≤ m → cntA h a f n ≤ cntA h a f m
  | 0, n, hn => by rw [show n = 0 by omega]; exact Int.le_refl _
  | m + 1, n, hn => by
    by_cases z : n = m + 1
    · rw [z]; exact Int.le_refl _
    · have := cntA_mono h a f m n (by omega)
      show _ ≤ cntA h a f m + _
      split <;> omega
theorem cntA_up {h : PH} {a f : Int} {n : Nat} (g : 0 < gv h a (f * 26 + n)) : cntA h a f (n + 1) = cntA h a f n + 1 := by
  show cntA h a f n + _ = _
  rw [if_pos g]
theorem cntA_up0 {h : PH} {a f : Int} {n : Nat} (g : ¬ 0 < gv h a (f * 26 + n)) : cntA h a f (n + 1) = cntA h a f n := by
  show cntA h a f n + _ = _
  rw [if_neg g]; omega
def chA (a _i : Int) : Bool := decide (a = 29)
theorem chA_bkB : ∀ a i, bkB a i = false → chA a i = false := fun a i => dw (by omega)
/-- the choices of the k-th sign y -/
def CH (h' h : PH) (dm k y : Int) : Prop := (∀ j, 0 ≤ j → j < 4 → gv h' 29 (k * 4 + j) = 0 ∨ MB h dm y (gv h' 29 (k * 4 + j))) ∧ ∀ x, MB h dm y x → ∃ j, (0 ≤ j ∧ j < 4) ∧ gv h' 29 (k * 4 + j) = x
theorem CH.kp {g g' h h' : PH} {dm k y : Int} (c : CH g h' dm k y) (K : Keep bkB h h') (e : ∀ j, 0 ≤ j → j < 4 → gv g' 29 (k * 4 + j) = gv g 29 (k * 4 + j)) : CH g' h dm k y := by
  obtain ⟨c1, c2⟩ := c
  refine ⟨fun j j0 j1 => ?_, fun x mx => ?_⟩
  · rw [e j j0 j1]; exact (c1 j j0 j1).imp id (MB_congr K _ _ _).1
  · obtain ⟨j, j0, j1⟩ := c2 x ((MB_congr K _ _ _).2 mx)
    exact ⟨j, j0, (e j j0.1 j0.2).trans j1⟩
theorem x_choose {d : Nat} {h : PH} {q : PQ} (S : Shape h) (k y dm : Int) (F : FI h) (k0 : 0 ≤ k) (k1 : k < 4) (hy1 : 1 ≤ y) (hy2 : y ≤ 29)
    (K : ∀ h', (Keep chA h h' ∧ (∀ j, j < k * 4 ∨ k * 4 + 4 ≤ j → gv h' 29 j = gv h 29 j) ∧ CH h' h dm k y) → Shape h' → q none h') :
    Wp (d + 2) 0 0 M_X5_choose 0 [some (.inr (.inr 24)), some (.inl k), some (.inl y), some (.inl dm), none, none, none] [] h q := by
  have L2 : ∀ (c : Nat) (r e at1 : Int) (h1 : PH), r + c = k * 4 + 4 → k * 4 + 1 + e ≤ r → 0 ≤ e → e ≤ 3 → Shape h1 → Keep chA h h1 → (∀ j, j < k * 4 ∨ k * 4 + 4 ≤ j → gv h1 29 j = gv h 29 j) → (∀ j, 0 ≤ j → j < 1 + e → MB h dm y (gv h1 29 (k * 4 + j))) → (∀ j, 1 + e ≤ j → k * 4 + j < r → gv h1 29 (k * 4 + j) = 0) → (∀ x, MB h dm y x → ∃ j, (0 ≤ j ∧ j < 1 + e) ∧ gv h1 29 (k * 4 + j) = x) →
      Wp (d + 2) 0 0 M_X5_choose 85 [some (.inr (.inr 24)), some (.inl k), some (.inl y), some (.inl dm), some (.inl at1), some (.inl (k * 4 + 4)), some (.inl r)] [] h1 q := by
    intro c
    induction c with
    | zero =>
      intro r e at1 h1 hr re e0 e3 S1 kp ho hm hz hx
      refine p_iload 87 rfl rfl rfl ?_
      refine p_iload 89 rfl rfl rfl ?_
      refine p_ic_ge_t 106 rfl rfl (by omega) ?_
      refine p_ret rfl rfl ?_
      -- leaf 1: answer [] h=h1 
      refine K h1 ⟨kp, ho, fun j j0 j1 => ?_, fun x mx => ?_⟩ S1
      · by_cases z : j < 1 + e
        · exact Or.inr (hm j j0 z)
        · exact Or.inl (hz j (by omega) (by omega))
      · obtain ⟨j, j0, j1⟩ := hx x mx; exact ⟨j, by omega, j1⟩
    | succ c ih =>
      intro r e at1 h1 hr re e0 e3 S1 kp ho hm hz hx
      refine p_iload 87 rfl rfl rfl ?_
      refine p_iload 89 rfl rfl rfl ?_
      refine p_ic_ge_f 92 rfl rfl (by omega) ?_
      refine p_aload 93 rfl rfl rfl ?_
      refine p_getfr (j := 11) (z := 29) 96 rfl rfl rfl (tg_24 S1) rfl (fi_24_11 S1) ?_
      refine p_iload 98 rfl rfl rfl ?_
      refine p_const 99 rfl rfl ?_
      refine p_iast (w := 16) 100 rfl rfl (by decide) (tg_29 S1) (ln_29 S1) (by omega) (by omega) ?_
      refine p_nmh (fun y1 e1 => ?_)
      have S1 : Shape y1 := by rw [e1]; exact S1.svA fa_29 _ _
      refine p_iinc (y := r + 1) (ls' := [some (.inr (.inr 24)), some (.inl k), some (.inl y), some (.inl dm), some (.inl at1), some (.inl (k * 4 + 4)), some (.inl (r + 1))]) 103 rfl rfl rfl (w32_id ⟨(by omega), (by omega)⟩) rfl ?_
      refine p_goto 85 rfl rfl ?_
      -- leaf 1: loop 85 [some (.inr (.inr 24)), some (.inl k), some (.inl y), some (.inl dm), some (.inl at1), some (.inl (k * 4 + 4)), some (.inl (r + 1))] st=[] h=y1 e1
      refine ih (r + 1) e _ _ (by omega) (by omega) e0 e3 S1 (by rw [e1]; exact kp.sv rfl _) (fun j hj => by rw [e1, sv_nf (by omega)]; exact ho j hj) (fun j j0 j1 => by rw [e1, sv_nf (by omega)]; exact hm j j0 j1) (fun j j0 j1 => ?_) (fun x mx => ?_)
      · by_cases z : k * 4 + j = r
        · rw [e1, z, sv_eq]
        · rw [e1, sv_nf z]; exact hz j j0 (by omega)
      · obtain ⟨j, j0, j1⟩ := hx x mx; exact ⟨j, j0, by rw [e1, sv_nf (by omega)]; exact j1⟩
  have L1 : ∀ (c o : Nat) (e : Int) (h1 : PH), o + c = 26 → 0 ≤ e → e ≤ 3 → (y ≤ 26 → e ≤ cntA h 88 (y - 1) o) → Shape h1 → Keep chA h h1 → (∀ j, j < k * 4 ∨ k * 4 + 4 ≤ j → gv h1 29 j = gv h 29 j) → (∀ j, 0 ≤ j → j < 1 + e → MB h dm y (gv h1 29 (k * 4 + j))) → (∀ x, MB h dm y x → (x = y ∨ x - 1 < o) → ∃ j, (0 ≤ j ∧ j < 1 + e) ∧ gv h1 29 (k * 4 + j) = x) →
      Wp (d + 2) 0 0 M_X5_choose 25 [some (.inr (.inr 24)), some (.inl k), some (.inl y), some (.inl dm), some (.inl (k * 4 + 1 + e)), some (.inl (k * 4 + 4)), some (.inl o)] [] h1 q := by
    intro c
    induction c with
    | zero =>
      intro o e h1 ho e0 e3 hc S1 kp hk hm hx
      have o26 : o = 26 := by omega
      subst o26
      have fin := L2 (3 - e).toNat (k * 4 + 1 + e) e (k * 4 + 1 + e) h1 (by omega) (by omega) e0 e3 S1 kp hk hm (fun j j0 j1 => by omega) (fun x mx => hx x mx (by have := mx; unfold MB at this; omega))
      refine p_iload 27 rfl rfl rfl ?_
      refine p_const 29 rfl rfl ?_
      refine p_ic_ge_t 81 rfl rfl (by decide) ?_
      refine p_iload 83 rfl rfl rfl ?_
      refine p_istore (ls' := [some (.inr (.inr 24)), some (.inl k), some (.inl y), some (.inl dm), some (.inl (k * 4 + 1 + e)), some (.inl (k * 4 + 4)), some (.inl (k * 4 + 1 + e))]) 85 rfl rfl (Nat.le_of_ble_eq_true rfl) rfl ?_
      -- leaf 1: loop 85 [some (.inr (.inr 24)), some (.inl k), some (.inl y), some (.inl dm), some (.inl (k * 4 + 1 + e)), some (.inl (k * 4 + 4)), some (.inl (k * 4 + 1 + e))] st=[] h=h1 
      exact fin
    | succ c ih =>
      intro o e h1 ho e0 e3 hc S1 kp hk hm hx
      have cn : y ≤ 26 → cntA h 88 (y - 1) 26 ≤ 3 := fun z => F.cn (y - 1) (by omega) (by omega)
      have al : y ≤ 26 → gv h 9 ((y - 1) * 26 + o) = gv h 88 ((y - 1) * 26 + o) := fun z => (F.al ((y - 1) * 26 + o) (by omega) (by omega)).1
      have e9 : gv h1 9 ((y - 1) * 26 + o) = gv h 9 ((y - 1) * 26 + o) := kp.1 9 _ rfl
      have fin : (26 < y ∨ e = 3) → Wp (d + 2) 0 0 M_X5_choose 85 [some (.inr (.inr 24)), some (.inl k), some (.inl y), some (.inl dm), some (.inl (k * 4 + 1 + e)), some (.inl (k * 4 + 4)), some (.inl (k * 4 + 1 + e))] [] h1 q := fun w =>
        L2 (3 - e).toNat (k * 4 + 1 + e) e (k * 4 + 1 + e) h1 (by omega) (by omega) e0 e3 S1 kp hk hm (fun j j0 j1 => by omega) (fun x mx => hx x mx (by
          rcases mx with m | ⟨m1, m2, m3, m4⟩
          · exact Or.inl m
          · refine Or.inr ?_
            apply Decidable.byContradiction
            intro z
            have h1 := cntA_mono h 88 (y - 1) (x - 1).toNat o (by omega)
            have h2 := cntA_up (h := h) (a := 88) (f := y - 1) (n := (x - 1).toNat) (by rw [Int.toNat_of_nonneg (by omega)]; exact m3)
            have h3 := cntA_mono h 88 (y - 1) 26 ((x - 1).toNat + 1) (by omega)
            have := hc (by omega)
            have := cn (by omega)
            omega))
      have skip : y ≤ 26 → ¬ (0 < gv h 88 ((y - 1) * 26 + o) ∧ gv h 88 ((y - 1) * 26 + o) ≤ dm) → Wp (d + 2) 0 0 M_X5_choose 25 [some (.inr (.inr 24)), some (.inl k), some (.inl y), some (.inl dm), some (.inl (k * 4 + 1 + e)), some (.inl (k * 4 + 4)), some (.inl (o + 1))] [] h1 q := fun y26 n =>
        ih (o + 1) e h1 (by omega) e0 e3 (fun z => Int.le_trans (hc z) (cntA_mono h 88 (y - 1) (o + 1) o (by omega))) S1 kp hk hm (fun x mx hxo => hx x mx (by
          rcases hxo with z | z
          · exact Or.inl z
          · by_cases w : x - 1 = o
            · rcases mx with m | ⟨m1, m2, m3, m4⟩
              · exact Or.inl m
              · rw [w] at m3 m4; exact absurd ⟨m3, m4⟩ n
            · exact Or.inr (by omega)))
      refine p_iload 27 rfl rfl rfl ?_
      refine p_const 29 rfl rfl ?_
      refine p_ic_ge_f 32 rfl rfl (by omega) ?_
      refine p_iload 33 rfl rfl rfl ?_
      refine p_const 35 rfl rfl ?_
      refine p_ic_gt 38 81 rfl rfl rfl (fun c1 => ?_) (fun c1 => ?_)
      · skip
        refine p_iload 83 rfl rfl rfl ?_
        refine p_istore (ls' := [some (.inr (.inr 24)), some (.inl k), some (.inl y), some (.inl dm), some (.inl (k * 4 + 1 + e)), some (.inl (k * 4 + 4)), some (.inl (k * 4 + 1 + e))]) 85 rfl rfl (Nat.le_of_ble_eq_true rfl) rfl ?_
        -- leaf 1: loop 85 [some (.inr (.inr 24)), some (.inl k), some (.inl y), some (.inl dm), some (.inl (k * 4 + 1 + e)), some (.inl (k * 4 + 4)), some (.inl (k * 4 + 1 + e))] st=[] h=h1 
        exact fin (Or.inl (by omega))
      · skip
        refine p_iload 40 rfl rfl rfl ?_
        refine p_iload 42 rfl rfl rfl ?_
        refine p_ic_ge 45 81 rfl rfl rfl (fun c2 => ?_) (fun c2 => ?_)
        · skip
          refine p_iload 83 rfl rfl rfl ?_
          refine p_istore (ls' := [some (.inr (.inr 24)), some (.inl k), some (.inl y), some (.inl dm), some (.inl (k * 4 + 1 + e)), some (.inl (k * 4 + 4)), some (.inl (k * 4 + 1 + e))]) 85 rfl rfl (Nat.le_of_ble_eq_true rfl) rfl ?_
          -- leaf 2: loop 85 [some (.inr (.inr 24)), some (.inl k), some (.inl y), some (.inl dm), some (.inl (k * 4 + 1 + e)), some (.inl (k * 4 + 4)), some (.inl (k * 4 + 1 + e))] st=[] h=h1 
          exact fin (Or.inr (by omega))
        · skip
          refine p_aload 46 rfl rfl rfl ?_
          refine p_getfr (j := 0) (z := 5) 49 rfl rfl rfl (tg_24 S1) rfl (fi_24_0 S1) ?_
          refine p_iload 50 rfl rfl rfl ?_
          refine p_const 51 rfl rfl ?_
          refine p_isub (z := y - 1) 52 rfl rfl (w32_id ⟨(by omega), (by omega)⟩) ?_
          refine p_iload 54 rfl rfl rfl ?_
          refine p_iload 55 rfl rfl rfl ?_
          refine p_callv (le := [some (.inr (.inr 5)), some (.inl (y - 1)), some (.inl o), some (.inl dm), none]) (as := [.inr (.inr 5), .inl (y - 1), .inl o, .inl dm]) (rest := []) 58 0 0 0 0 rfl rfl (Nat.le_of_ble_eq_true rfl) rfl (Nat.le_of_ble_eq_true rfl) rfl rfl (Nat.le_of_ble_eq_true rfl) rfl (Nat.le_of_ble_eq_true rfl) rfl (Nat.le_refl _) (Nat.le_refl _) rfl rfl (tg_5 S1) ?_
          refine p_aload 1 rfl rfl rfl ?_
          refine p_getfr (j := 3) (z := 9) 4 rfl rfl rfl (tg_5 S1) rfl (fi_5_3 S1) ?_
          refine p_iload 5 rfl rfl rfl ?_
          refine p_const 7 rfl rfl ?_
          refine p_imul (z := (y - 1) * 26) 8 rfl rfl (w32_id ⟨(by omega), (by omega)⟩) ?_
          refine p_iload 9 rfl rfl rfl ?_
          refine p_iadd (z := ((y - 1) * 26) + o) 10 rfl rfl (w32_id ⟨(by omega), (by omega)⟩) ?_
          refine p_iald (w := 676) (z := gv h1 9 (((y - 1) * 26) + o)) 11 rfl rfl (tg_9 S1) (ln_9 S1) (by omega) (by omega) rfl ?_
          refine p_istore (ls' := [some (.inr (.inr 5)), some (.inl (y - 1)), some (.inl o), some (.inl dm), some (.inl (gv h1 9 (((y - 1) * 26) + o)))]) 13 rfl rfl (Nat.le_of_ble_eq_true rfl) rfl ?_
          refine p_iload 15 rfl rfl rfl ?_
          refine p_if_le 18 28 rfl rfl rfl (fun c3 => ?_) (fun c3 => ?_)
          · skip
            refine p_const 29 rfl rfl ?_
            refine p_zret rfl rfl (by decide) ?_
            show Wp (d + 2) 0 0 M_X5_choose 58 [some (.inr (.inr 24)), some (.inl k), some (.inl y), some (.inl dm), some (.inl (k * 4 + 1 + e)), some (.inl (k * 4 + 4)), some (.inl o)] [.inl 0] h1 _
            refine p_if_eq_t 75 rfl rfl (by decide) ?_
            refine p_iinc (y := o + 1) (ls' := [some (.inr (.inr 24)), some (.inl k), some (.inl y), some (.inl dm), some (.inl (k * 4 + 1 + e)), some (.inl (k * 4 + 4)), some (.inl (o + 1))]) 78 rfl rfl rfl (w32_id ⟨(by omega), (by omega)⟩) rfl ?_
            refine p_goto 25 rfl rfl ?_
            -- leaf 3: loop 25 [some (.inr (.inr 24)), some (.inl k), some (.inl y), some (.inl dm), some (.inl (k * 4 + 1 + e)), some (.inl (k * 4 + 4)), some (.inl (o + 1))] st=[] h=h1 
            exact skip (by omega) (fun z => by have := al (by omega); omega)
          · skip
            refine p_iload 20 rfl rfl rfl ?_
            refine p_iload 21 rfl rfl rfl ?_
            refine p_ic_gt 24 28 rfl rfl rfl (fun c4 => ?_) (fun c4 => ?_)
            · skip
              refine p_const 29 rfl rfl ?_
              refine p_zret rfl rfl (by decide) ?_
              show Wp (d + 2) 0 0 M_X5_choose 58 [some (.inr (.inr 24)), some (.inl k), some (.inl y), some (.inl dm), some (.inl (k * 4 + 1 + e)), some (.inl (k * 4 + 4)), some (.inl o)] [.inl 0] h1 _
              refine p_if_eq_t 75 rfl rfl (by decide) ?_
              refine p_iinc (y := o + 1) (ls' := [some (.inr (.inr 24)), some (.inl k), some (.inl y), some (.inl dm), some (.inl (k * 4 + 1 + e)), some (.inl (k * 4 + 4)), some (.inl (o + 1))]) 78 rfl rfl rfl (w32_id ⟨(by omega), (by omega)⟩) rfl ?_
              refine p_goto 25 rfl rfl ?_
              -- leaf 4: loop 25 [some (.inr (.inr 24)), some (.inl k), some (.inl y), some (.inl dm), some (.inl (k * 4 + 1 + e)), some (.inl (k * 4 + 4)), some (.inl (o + 1))] st=[] h=h1 
              exact skip (by omega) (fun z => by have := al (by omega); omega)
            · skip
              refine p_const 25 rfl rfl ?_
              refine p_goto 29 rfl rfl ?_
              refine p_zret rfl rfl (by decide) ?_
              show Wp (d + 2) 0 0 M_X5_choose 58 [some (.inr (.inr 24)), some (.inl k), some (.inl y), some (.inl dm), some (.inl (k * 4 + 1 + e)), some (.inl (k * 4 + 4)), some (.inl o)] [.inl 1] h1 _
              refine p_if_eq_f 61 rfl rfl (by decide) ?_
              refine p_aload 62 rfl rfl rfl ?_
              refine p_getfr (j := 11) (z := 29) 65 rfl rfl rfl (tg_24 S1) rfl (fi_24_11 S1) ?_
              refine p_iload 67 rfl rfl rfl ?_
              refine p_iload 69 rfl rfl rfl ?_
              refine p_const 70 rfl rfl ?_
              refine p_iadd (z := o + 1) 71 rfl rfl (w32_id ⟨(by omega), (by omega)⟩) ?_
              refine p_iast (w := 16) 72 rfl rfl (by decide) (tg_29 S1) (ln_29 S1) (by omega) (by omega) ?_
              refine p_nmh (fun y5 e5 => ?_)
              have S5 : Shape y5 := by rw [e5]; exact S1.svA fa_29 _ _
              refine p_iinc (y := (k * 4 + 1 + e) + 1) (ls' := [some (.inr (.inr 24)), some (.inl k), some (.inl y), some (.inl dm), some (.inl ((k * 4 + 1 + e) + 1)), some (.inl (k * 4 + 4)), some (.inl o)]) 75 rfl rfl rfl (w32_id ⟨(by omega), (by omega)⟩) rfl ?_
              refine p_iinc (y := o + 1) (ls' := [some (.inr (.inr 24)), some (.inl k), some (.inl y), some (.inl dm), some (.inl ((k * 4 + 1 + e) + 1)), some (.inl (k * 4 + 4)), some (.inl (o + 1))]) 78 rfl rfl rfl (w32_id ⟨(by omega), (by omega)⟩) rfl ?_
              refine p_goto 25 rfl rfl ?_
              -- leaf 5: loop 25 [some (.inr (.inr 24)), some (.inl k), some (.inl y), some (.inl dm), some (.inl ((k * 4 + 1 + e) + 1)), some (.inl (k * 4 + 4)), some (.inl (o + 1))] st=[] h=y5 e5
              rw [show k * 4 + 1 + e + 1 = k * 4 + 1 + (e + 1) by omega]
              have al1 := al (by omega)
              refine ih (o + 1) (e + 1) _ (by omega) (by omega) (by omega) (fun z => by have h1 := cntA_up (h := h) (a := 88) (f := y - 1) (n := o) (by omega); have := hc z; omega) S5 (by rw [e5]; exact kp.sv rfl _) (fun j hj => by rw [e5, sv_nf (by omega)]; exact hk j hj) (fun j j0 j1 => ?_) (fun x mx hxo => ?_)
              · by_cases z : j = 1 + e
                · rw [e5, show k * 4 + j = k * 4 + 1 + e by omega, sv_eq]
                  refine Or.inr ⟨by omega, by omega, ?_, ?_⟩
                  · rw [show (o : Int) + 1 - 1 = o by omega]; omega
                  · rw [show (o : Int) + 1 - 1 = o by omega]; omega
                · rw [e5, sv_nf (by omega)]; exact hm j j0 (by omega)
              · by_cases w : x = o + 1
                · exact ⟨1 + e, by omega, by rw [e5, show k * 4 + (1 + e) = k * 4 + 1 + e by omega, sv_eq, w]⟩
                · obtain ⟨j, j0, j1⟩ := hx x mx (by omega)
                  exact ⟨j, by omega, by rw [e5, sv_nf (by omega)]; exact j1⟩
  refine p_iload 1 rfl rfl rfl ?_
  refine p_const 2 rfl rfl ?_
  refine p_imul (z := k * 4) 3 rfl rfl (w32_id ⟨(by omega), (by omega)⟩) ?_
  refine p_istore (ls' := [some (.inr (.inr 24)), some (.inl k), some (.inl y), some (.inl dm), some (.inl (k * 4)), none, none]) 5 rfl rfl (Nat.le_of_ble_eq_true rfl) rfl ?_
  refine p_iload 7 rfl rfl rfl ?_
  refine p_const 8 rfl rfl ?_
  refine p_iadd (z := (k * 4) + 4) 9 rfl rfl (w32_id ⟨(by omega), (by omega)⟩) ?_
  refine p_istore (ls' := [some (.inr (.inr 24)), some (.inl k), some (.inl y), some (.inl dm), some (.inl (k * 4)), some (.inl ((k * 4) + 4)), none]) 11 rfl rfl (Nat.le_of_ble_eq_true rfl) rfl ?_
  refine p_aload 12 rfl rfl rfl ?_
  refine p_getfr (j := 11) (z := 29) 15 rfl rfl rfl (tg_24 S) rfl (fi_24_11 S) ?_
  refine p_iload 17 rfl rfl rfl ?_
  refine p_iload 18 rfl rfl rfl ?_
  refine p_iast (w := 16) 19 rfl rfl (by decide) (tg_29 S) (ln_29 S) (by omega) (by omega) ?_
  refine p_nmh (fun y1 e1 => ?_)
  have S1 : Shape y1 := by rw [e1]; exact S.svA fa_29 _ _
  refine p_iinc (y := (k * 4) + 1) (ls' := [some (.inr (.inr 24)), some (.inl k), some (.inl y), some (.inl dm), some (.inl ((k * 4) + 1)), some (.inl ((k * 4) + 4)), none]) 22 rfl rfl rfl (w32_id ⟨(by omega), (by omega)⟩) rfl ?_
  refine p_const 23 rfl rfl ?_
  refine p_istore (ls' := [some (.inr (.inr 24)), some (.inl k), some (.inl y), some (.inl dm), some (.inl ((k * 4) + 1)), some (.inl ((k * 4) + 4)), some (.inl 0)]) 25 rfl rfl (Nat.le_of_ble_eq_true rfl) rfl ?_
  -- leaf 1: loop 25 [some (.inr (.inr 24)), some (.inl k), some (.inl y), some (.inl dm), some (.inl ((k * 4) + 1)), some (.inl ((k * 4) + 4)), some (.inl 0)] st=[] h=y1 e1
  have fin := L1 26 0 0 y1 (by omega) (by omega) (by omega) (fun _ => Int.le_refl 0) S1 (by rw [e1]; exact (Keep.rf _ _).sv rfl _) (fun j hj => by rw [e1, sv_nf (by omega)]) (fun j j0 j1 => ?_) (fun x mx hx => ?_)
  · rw [Int.add_zero] at fin; exact fin
  · rw [show k * 4 + j = k * 4 by omega, e1, sv_eq]; exact Or.inl rfl
  · have := mx.in hy1 hy2
    exact ⟨0, by omega, by rw [show k * 4 + 0 = k * 4 by omega, e1, sv_eq]; omega⟩
/-- the number of the first k of the signs c -/
def nu (c : Nat → Int) : Nat → Int
  | 0 => 0
  | k + 1 => nu c k * 32 + c k
theorem nu_congr {c c' : Nat → Int} : ∀ n : Nat, (∀ i, i < n → c i = c' i) → nu c n = nu c' n
  | 0, _ => rfl
  | n + 1, e => by unfold nu; rw [nu_congr n (fun i hi => e i (by omega)), e n (by omega)]
theorem nu_in {c : Nat → Int} : ∀ n : Nat, n ≤ 4 → (∀ i, i < n → 1 ≤ c i ∧ c i ≤ 29) → 0 ≤ nu c n ∧ nu c n < 1048576 ∧ (n = 0 → nu c n = 0) ∧ (n = 1 → 1 ≤ nu c n ∧ nu c n < 32) ∧ (n = 2 → 32 ≤ nu c n ∧ nu c n < 1024) ∧ (n = 3 → 1024 ≤ nu c n ∧ nu c n < 32768) ∧ (n = 4 → 32768 ≤ nu c n) := by
  intro n hn h
  have e0 := h 0
  have e1 := h 1
  have e2 := h 2
  have e3 := h 3
  rcases (show n = 0 ∨ n = 1 ∨ n = 2 ∨ n = 3 ∨ n = 4 by omega) with rfl | rfl | rfl | rfl | rfl
  · show 0 ≤ (0 : Int) ∧ (0 : Int) < _ ∧ (_ → (0 : Int) = 0) ∧ _; exact ⟨by omega, by omega, fun _ => rfl, fun z => by omega, fun z => by omega, fun z => by omega, fun z => by omega⟩
  · have := e0 (by omega)
    have e : nu c 1 = 0 * 32 + c 0 := rfl
    rw [e]; omega
  · have := e0 (by omega)
    have := e1 (by omega)
    have e : nu c 2 = (0 * 32 + c 0) * 32 + c 1 := rfl
    rw [e]; omega
  · have := e0 (by omega)
    have := e1 (by omega)
    have := e2 (by omega)
    have e : nu c 3 = ((0 * 32 + c 0) * 32 + c 1) * 32 + c 2 := rfl
    rw [e]; omega
  · have := e0 (by omega)
    have := e1 (by omega)
    have := e2 (by omega)
    have := e3 (by omega)
    have e : nu c 4 = (((0 * 32 + c 0) * 32 + c 1) * 32 + c 2) * 32 + c 3 := rfl
    rw [e]; omega
theorem rl_nu {c : Nat → Int} {n : Nat} (n1 : 1 ≤ n) (n4 : n ≤ 4) (h : ∀ i, i < n → 1 ≤ c i ∧ c i ≤ 29) : rl (nu c n) = n := by
  have z := nu_in n n4 h
  generalize nu c n = x at z
  unfold rl
  (repeat' split) <;> omega
/-- the letters that a hoist tells are a row of letters of the same length -/
theorem told_rl {v : Int} (g : isHo v) : letters (lv v (rl v) (rl v).toNat) ∧ rl (lv v (rl v) (rl v).toNat) = rl v := by
  have b := rl_in v
  have gp := g.1
  have p : ∀ k : Nat, (k : Int) < rl v → 1 ≤ lt v (rl v) k ∧ lt v (rl v) k ≤ 26 := fun k hk => lt_pos k (by omega) (fun j hj => g.2 j (by omega) (by omega))
  have e : ∀ n : Nat, lv v (rl v) n = nu (fun i => lt v (rl v) i) n := by
    intro n
    induction n with
    | zero => rfl
    | succ n ih => rw [lv_up, ih]; rfl
  have r : rl (lv v (rl v) (rl v).toNat) = rl v := by
    rw [e, rl_nu (by omega) (by omega) (fun i hi => by have := p i (by omega); omega), Int.toNat_of_nonneg b.1]
  refine ⟨⟨by rw [r]; exact gp, fun k k0 k1 => ?_⟩, r⟩
  rw [r] at k1 ⊢
  have s := sg_lv v (rl v) (rl v).toNat (by omega) k.toNat (by omega)
  rw [Int.toNat_of_nonneg b.1, Int.toNat_of_nonneg k0] at s
  rw [s]
  exact p k.toNat (by omega)
abbrev told (v : Int) : Int := lv v (rl v) (rl v).toNat
/-- what the hoist w, seen at dm, may have meant -/
def SeenQ (h : PH) (W : Int → Int → Prop) (dm w : Int) (l : List Int) : Prop := ∃ c : Nat → Int, (∀ i : Nat, (i : Int) < rl w → MB h dm (sg w (rl w) i) (c i)) ∧ isHo (nu c (rl w).toNat) ∧ Rd W (told (nu c (rl w).toNat)) l
/-- the choice of sign k that p tells -/
def pc (h : PH) (p : Int) (k : Nat) : Int := gv h 29 ((k : Int) * 4 + p / 2 ^ (2 * (k : Int)).toNat % 4)
theorem x_picked {d : Nat} {h : PH} {q : PQ} (S : Shape h) (p n : Int) (n0 : 0 ≤ n) (n4 : n ≤ 4) (p0 : 0 ≤ p) (p1 : p < 256) (hb : ∀ j, 0 ≤ j → j < n * 4 → 0 ≤ gv h 29 j ∧ gv h 29 j ≤ 29)
    (K : ∀ r, (r = -1 ∧ ∃ k : Nat, (k : Int) < n ∧ pc h p k = 0) ∨ (r = nu (pc h p) n.toNat ∧ ∀ k : Nat, (k : Int) < n → 1 ≤ pc h p k ∧ pc h p k ≤ 29) → q (some (.inl r)) h) :
    Wp (d + 1) 0 0 M_X5_picked 0 [some (.inr (.inr 24)), some (.inl p), some (.inl n), none, none, none] [] h q := by
  have L : ∀ (c k : Nat) (w : Option PV), (k : Int) + c = n → (∀ i : Nat, i < k → 1 ≤ pc h p i ∧ pc h p i ≤ 29) → Wp (d + 1) 0 0 M_X5_picked 5 [some (.inr (.inr 24)), some (.inl p), some (.inl n), some (.inl (nu (pc h p) k)), some (.inl k), w] [] h q := by
    intro c
    induction c with
    | zero =>
      intro k w hk hp
      have hk : n = k := by omega
      subst hk
      refine p_iload 7 rfl rfl rfl ?_
      refine p_iload 8 rfl rfl rfl ?_
      refine p_ic_ge_t 51 rfl rfl (by omega) ?_
      refine p_iload 52 rfl rfl rfl ?_
      refine p_iret rfl rfl ?_
      -- leaf 1: answer [.inl (nu (pc h p) k)] h=h 
      exact K _ (Or.inr ⟨rfl, fun i hi => hp i (by omega)⟩)
    | succ c ih =>
      intro k w hk hp
      have ni := nu_in (c := pc h p) k (by omega) hp
      have e : gv h 29 ((k : Int) * 4 + p / 2 ^ (2 * (k : Int)).toNat % 4) = pc h p k := rfl
      have pb : 0 ≤ pc h p k ∧ pc h p k ≤ 29 := hb _ (by omega) (by omega)
      have up : nu (pc h p) (k + 1) = nu (pc h p) k * 32 + pc h p k := rfl
      refine p_iload 7 rfl rfl rfl ?_
      refine p_iload 8 rfl rfl rfl ?_
      refine p_ic_ge_f 11 rfl rfl (by omega) ?_
      refine p_aload 12 rfl rfl rfl ?_
      refine p_getfr (j := 11) (z := 29) 15 rfl rfl rfl (tg_24 S) rfl (fi_24_11 S) ?_
      refine p_iload 17 rfl rfl rfl ?_
      refine p_const 18 rfl rfl ?_
      refine p_imul (z := (k : Int) * 4) 19 rfl rfl (w32_id ⟨(by omega), (by omega)⟩) ?_
      refine p_iload 20 rfl rfl rfl ?_
      refine p_const 21 rfl rfl ?_
      refine p_iload 23 rfl rfl rfl ?_
      refine p_imul (z := 2 * (k : Int)) 24 rfl rfl (w32_id ⟨(by omega), (by omega)⟩) ?_
      refine p_ishr (z := p / 2 ^ (2 * (k : Int)).toNat) 25 rfl rfl (by omega) (by omega) rfl ?_
      refine p_const 26 rfl rfl ?_
      refine p_iand (z := (p / 2 ^ (2 * (k : Int)).toNat) % 4) 27 rfl rfl (mask32 2 rfl (by decide)) ?_
      refine p_iadd (z := ((k : Int) * 4) + ((p / 2 ^ (2 * (k : Int)).toNat) % 4)) 28 rfl rfl (w32_id ⟨(by omega), (by omega)⟩) ?_
      refine p_iald (w := 16) (z := gv h 29 (((k : Int) * 4) + ((p / 2 ^ (2 * (k : Int)).toNat) % 4))) 29 rfl rfl (tg_29 S) (ln_29 S) (by omega) (by omega) rfl ?_
      refine p_istore (ls' := [some (.inr (.inr 24)), some (.inl p), some (.inl n), some (.inl (nu (pc h p) k)), some (.inl (k : Int)), some (.inl (gv h 29 (((k : Int) * 4) + ((p / 2 ^ (2 * (k : Int)).toNat) % 4))))]) 31 rfl rfl (Nat.le_of_ble_eq_true rfl) rfl ?_
      refine p_iload 33 rfl rfl rfl ?_
      refine p_if_ne 36 38 rfl rfl rfl (fun c1 => ?_) (fun c1 => ?_)
      · skip
        refine p_iload 39 rfl rfl rfl ?_
        refine p_const 40 rfl rfl ?_
        refine p_ishl (z := (nu (pc h p) k) * 32) 41 rfl rfl (by decide) (by decide) (w32_id (x := (nu (pc h p) k) * 32) ⟨(by omega), (by omega)⟩) ?_
        refine p_iload 43 rfl rfl rfl ?_
        refine p_ior (z := or32 ((nu (pc h p) k) * 32) (gv h 29 (((k : Int) * 4) + ((p / 2 ^ (2 * (k : Int)).toNat) % 4)))) 44 rfl rfl rfl ?_
        refine p_istore (ls' := [some (.inr (.inr 24)), some (.inl p), some (.inl n), some (.inl (or32 ((nu (pc h p) k) * 32) (gv h 29 (((k : Int) * 4) + ((p / 2 ^ (2 * (k : Int)).toNat) % 4))))), some (.inl (k : Int)), some (.inl (gv h 29 (((k : Int) * 4) + ((p / 2 ^ (2 * (k : Int)).toNat) % 4))))]) 45 rfl rfl (Nat.le_of_ble_eq_true rfl) rfl ?_
        refine p_iinc (y := (k : Int) + 1) (ls' := [some (.inr (.inr 24)), some (.inl p), some (.inl n), some (.inl (or32 ((nu (pc h p) k) * 32) (gv h 29 (((k : Int) * 4) + ((p / 2 ^ (2 * (k : Int)).toNat) % 4))))), some (.inl ((k : Int) + 1)), some (.inl (gv h 29 (((k : Int) * 4) + ((p / 2 ^ (2 * (k : Int)).toNat) % 4))))]) 48 rfl rfl rfl (w32_id ⟨(by omega), (by omega)⟩) rfl ?_
        refine p_goto 5 rfl rfl ?_
        -- leaf 1: loop 5 [some (.inr (.inr 24)), some (.inl p), some (.inl n), some (.inl (or32 ((nu (pc h p) k) * 32) (gv h 29 (((k : Int) * 4) + ((p / 2 ^ (2 * (k : Int)).toNat) % 4))))), some (.inl ((k : Int) + 1)), some (.inl (gv h 29 (((k : Int) * 4) + ((p / 2 ^ (2 * (k : Int)).toNat) % 4))))] st=[] h=h 
        have c1 : pc h p k ≠ 0 := c1
        have fin := ih (k + 1) (some (.inl (pc h p k))) (by omega) (fun i hi => by
          by_cases z : i = k
          · rw [z]; omega
          · exact hp i (by omega))
        rw [up, ← or32_add (x := nu (pc h p) k) (y := pc h p k) (by omega) (by omega) (by omega) (by omega)] at fin
        exact fin
      · skip
        refine p_const 37 rfl rfl ?_
        refine p_iret rfl rfl ?_
        -- leaf 2: answer [.inl (-1)] h=h 
        exact K _ (Or.inl ⟨rfl, k, by omega, c1⟩)
  refine p_const 1 rfl rfl ?_
  refine p_istore (ls' := [some (.inr (.inr 24)), some (.inl p), some (.inl n), some (.inl 0), none, none]) 2 rfl rfl (Nat.le_of_ble_eq_true rfl) rfl ?_
  refine p_const 3 rfl rfl ?_
  refine p_istore (ls' := [some (.inr (.inr 24)), some (.inl p), some (.inl n), some (.inl 0), some (.inl 0), none]) 5 rfl rfl (Nat.le_of_ble_eq_true rfl) rfl ?_
  -- leaf 1: loop 5 [some (.inr (.inr 24)), some (.inl p), some (.inl n), some (.inl 0), some (.inl 0), none] st=[] h=h 
  exact L n.toNat 0 _ (by omega) (fun i hi => by omega)
theorem p4s {n : Int} (n1 : 1 ≤ n) (n4 : n ≤ 4) : ∃ N, w32 (1 * 2 ^ (2 * n).toNat) = N ∧ 4 ≤ N ∧ N ≤ 256 ∧ ∀ j : Nat → Int, (∀ i, 0 ≤ j i ∧ j i < 4) → ∃ p, 0 ≤ p ∧ p < N ∧ ∀ i : Nat, (i : Int) < n → p / 2 ^ (2 * (i : Int)).toNat % 4 = j i := by
  rcases (show n = 1 ∨ n = 2 ∨ n = 3 ∨ n = 4 by omega) with rfl | rfl | rfl | rfl
  · refine ⟨4, by decide, by decide, by decide, fun j hj => ⟨j 0, (hj 0).1, (hj 0).2, fun i hi => ?_⟩⟩
    have h0 := hj 0
    rcases (show i = 0 by omega) with rfl
    show j 0 / 1 % 4 = j 0
    omega
  · have h0 := fun (j : Nat → Int) (hj : ∀ i, 0 ≤ j i ∧ j i < 4) => And.intro (hj 0) (hj 1)
    refine ⟨16, by decide, by decide, by decide, fun j hj => ⟨j 0 + 4 * j 1, by have := h0 j hj; omega, by have := h0 j hj; omega, fun i hi => ?_⟩⟩
    have := h0 j hj
    rcases (show i = 0 ∨ i = 1 by omega) with rfl | rfl
    · show (j 0 + 4 * j 1) / 1 % 4 = j 0; omega
    · show (j 0 + 4 * j 1) / 4 % 4 = j 1; omega
  · have h0 := fun (j : Nat → Int) (hj : ∀ i, 0 ≤ j i ∧ j i < 4) => And.intro (hj 0) (And.intro (hj 1) (hj 2))
    refine ⟨64, by decide, by decide, by decide, fun j hj => ⟨j 0 + 4 * j 1 + 16 * j 2, by have := h0 j hj; omega, by have := h0 j hj; omega, fun i hi => ?_⟩⟩
    have := h0 j hj
    rcases (show i = 0 ∨ i = 1 ∨ i = 2 by omega) with rfl | rfl | rfl
    · show (j 0 + 4 * j 1 + 16 * j 2) / 1 % 4 = j 0; omega
    · show (j 0 + 4 * j 1 + 16 * j 2) / 4 % 4 = j 1; omega
    · show (j 0 + 4 * j 1 + 16 * j 2) / 16 % 4 = j 2; omega
  · have h0 := fun (j : Nat → Int) (hj : ∀ i, 0 ≤ j i ∧ j i < 4) => And.intro (hj 0) (And.intro (hj 1) (And.intro (hj 2) (hj 3)))
    refine ⟨256, by decide, by decide, by decide, fun j hj => ⟨j 0 + 4 * j 1 + 16 * j 2 + 64 * j 3, by have := h0 j hj; omega, by have := h0 j hj; omega, fun i hi => ?_⟩⟩
    have := h0 j hj
    rcases (show i = 0 ∨ i = 1 ∨ i = 2 ∨ i = 3 by omega) with rfl | rfl | rfl | rfl
    · show (j 0 + 4 * j 1 + 16 * j 2 + 64 * j 3) / 1 % 4 = j 0; omega
    · show (j 0 + 4 * j 1 + 16 * j 2 + 64 * j 3) / 4 % 4 = j 1; omega
    · show (j 0 + 4 * j 1 + 16 * j 2 + 64 * j 3) / 16 % 4 = j 2; omega
    · show (j 0 + 4 * j 1 + 16 * j 2 + 64 * j 3) / 64 % 4 = j 3; omega
def gsA (a i : Int) : Bool := decide ((a = 24 ∧ (i = 4 ∨ i = 9 ∨ i = 10)) ∨ (25 ≤ a ∧ a ≤ 29))
theorem gsA_bkB : ∀ a i, bkB a i = false → gsA a i = false := fun a i => dw (by omega)
theorem gsA_xA : ∀ a i, xA a i = false → gsA a i = false := fun a i => dw (by omega)
theorem chA_gsA : ∀ a i, gsA a i = false → chA a i = false := fun a i => dw (by omega)
theorem rA_gsA : ∀ a i, gsA a i = false → rA a i = false := fun a i => dw (by omega)
theorem gsA_prep : ∀ a i, bkB a i = false ∨ (a = 24 ∧ (i = 2 ∨ i = 3)) → gsA a i = false := fun a i z => decide_eq_false (fun y => by
  rcases z with z | z
  · exact of_decide_eq_false z (by omega)
  · omega)
def PQ1 (g : PH) (W : Int → Int → Prop) (n p : Int) (l : List Int) : Prop := (∀ k : Nat, (k : Int) < n → 1 ≤ pc g p k ∧ pc g p k ≤ 29) ∧ isHo (nu (pc g p) n.toNat) ∧ Rd W (told (nu (pc g p) n.toNat)) l
theorem pc_congr {g g' : PH} (e : ∀ i, gv g' 29 i = gv g 29 i) (p : Int) : pc g' p = pc g p := by funext k; unfold pc; rw [e]
theorem not_ho_neg : ¬ isHo (-1) := fun z => absurd z.1 (by decide)
theorem x_gatherSeen {d : Nat} {h : PH} {q : PQ} (S : Shape h) (w dm : Int) {a k s t z : Int} {L : List (List Int)} {lim : Nat} (R : BkR h a k) (Pr : Prep h a k s t z) (F : FI h) (g : isHo w) (RX : RowsX h L lim)
    (K : ∀ h', (Keep gsA h h' ∧ ∃ L', RowsX h' L' lim ∧ Ext L L' lim (SeenQ h (Ws h k s t z) dm w)) → Shape h' → q none h') : Wp (d + 8) 0 0 M_X5_gatherSeen 0 [some (.inr (.inr 24)), some (.inl w), some (.inl dm), none, none, none] [] h q := by
  have b := rl_in w
  have gp := g.1
  obtain ⟨N, hN, N4, N256, hpick⟩ := p4s (n := rl w) (by omega) b.2
  have L2 : ∀ (h0 : PH), Keep chA h h0 → (∀ i : Nat, (i : Int) < rl w → CH h0 h dm i (sg w (rl w) i)) → ∀ (c : Nat) (p : Int) (w5 : Option PV) (L1 : List (List Int)) (h1 : PH), p + c = N → 0 ≤ p → Shape h1 → Keep gsA h h1 → (∀ i, gv h1 29 i = gv h0 29 i) → RowsX h1 L1 lim → Ext L L1 lim (fun l => ∃ p', (0 ≤ p' ∧ p' < p) ∧ PQ1 h0 (Ws h k s t z) (rl w) p' l) →
      Wp (d + 8) 0 0 M_X5_gatherSeen 37 [some (.inr (.inr 24)), some (.inl w), some (.inl dm), some (.inl (rl w)), some (.inl p), w5] [] h1 q := by
    intro h0 k0 ch
    have hb : ∀ j, 0 ≤ j → j < rl w * 4 → 0 ≤ gv h0 29 j ∧ gv h0 29 j ≤ 29 := fun j j0 j1 => by
      have i := g.2 (j / 4) (by omega) (by omega)
      have c := (ch (j / 4).toNat (by omega)).1 (j % 4) (by omega) (by omega)
      rw [Int.toNat_of_nonneg (by omega), show j / 4 * 4 + j % 4 = j by omega] at c
      rcases c with c | c
      · omega
      · have := c.in i.1 i.2.1; omega
    have iff : ∀ l, (∃ p', (0 ≤ p' ∧ p' < N) ∧ PQ1 h0 (Ws h k s t z) (rl w) p' l) ↔ SeenQ h (Ws h k s t z) dm w l := by
      intro l
      constructor
      · rintro ⟨p', pp, q1, q2, q3⟩
        refine ⟨pc h0 p', fun i hi => ?_, q2, q3⟩
        have c := (ch i hi).1 (p' / 2 ^ (2 * (i : Int)).toNat % 4) (by omega) (by omega)
        have y := q1 i hi
        rcases c with c | c
        · unfold pc at y; omega
        · exact c
      · rintro ⟨c, q1, q2, q3⟩
        have ex : ∀ i : Nat, ∃ j : Int, (0 ≤ j ∧ j < 4) ∧ ((i : Int) < rl w → gv h0 29 ((i : Int) * 4 + j) = c i) := fun i => by
          by_cases y : (i : Int) < rl w
          · obtain ⟨j, j0, j1⟩ := (ch i y).2 _ (q1 i y); exact ⟨j, j0, fun _ => j1⟩
          · exact ⟨0, by omega, fun y' => absurd y' y⟩
        obtain ⟨j, hj⟩ := Classical.axiomOfChoice ex
        obtain ⟨p', p0, p1, hp⟩ := hpick j (fun i => (hj i).1)
        have e : ∀ i : Nat, (i : Int) < rl w → pc h0 p' i = c i := fun i hi => by unfold pc; rw [hp i hi]; exact (hj i).2 hi
        have en : nu (pc h0 p') (rl w).toNat = nu c (rl w).toNat := nu_congr _ (fun i hi => e i (by omega))
        refine ⟨p', ⟨p0, p1⟩, fun i hi => ?_, by rw [en]; exact q2, by rw [en]; exact q3⟩
        rw [e i hi]
        have gi := g.2 i (by omega) hi
        exact (q1 i hi).in gi.1 gi.2.1
    intro c
    induction c with
    | zero =>
      intro p w5 L1 h1 hp p0 S1 kp e29 R1 X
      have fin : Ext L L1 lim (SeenQ h (Ws h k s t z) dm w) := X.imp (fun l => by rw [← iff, show p = N by omega])
      refine p_iload 39 rfl rfl rfl ?_
      refine p_const 40 rfl rfl ?_
      refine p_const 41 rfl rfl ?_
      refine p_iload 42 rfl rfl rfl ?_
      refine p_imul (z := 2 * (rl w)) 43 rfl rfl (w32_id ⟨(by omega), (by omega)⟩) ?_
      refine p_ishl (z := w32 (1 * 2 ^ (2 * (rl w)).toNat)) 44 rfl rfl (by omega) (by omega) rfl ?_
      refine p_ic_ge_t 88 rfl rfl (by omega) ?_
      refine p_ret rfl rfl ?_
      -- leaf 1: answer [] h=h1 
      exact K h1 ⟨kp, L1, R1, fin⟩ S1
    | succ c ih =>
      intro p w5 L1 h1 hp p0 S1 kp e29 R1 X
      have kB := kp.wide gsA_bkB
      have z1 := R1.1
      have z2 := R1.2.1
      have epc : pc h1 p = pc h0 p := pc_congr e29 p
      have full : lim ≤ L1.length → Ext L L1 lim (SeenQ h (Ws h k s t z) dm w) := fun f => X.full f (fun l ⟨x, px, y⟩ => (iff l).1 ⟨x, by omega, y⟩)
      have skip : ∀ (w6 : Option PV), (∀ l, ¬ PQ1 h0 (Ws h k s t z) (rl w) p l) → Wp (d + 8) 0 0 M_X5_gatherSeen 37 [some (.inr (.inr 24)), some (.inl w), some (.inl dm), some (.inl (rl w)), some (.inl (p + 1)), w6] [] h1 q := fun w6 n =>
        ih (p + 1) w6 L1 h1 (by omega) (by omega) S1 kp e29 R1 (X.imp (fun l => ⟨fun ⟨x, px, y⟩ => ⟨x, by omega, y⟩, fun ⟨x, px, y⟩ => ⟨x, by
          have : x ≠ p := fun e => by rw [e] at y; exact n l y
          omega, y⟩⟩))
      refine p_iload 39 rfl rfl rfl ?_
      refine p_const 40 rfl rfl ?_
      refine p_const 41 rfl rfl ?_
      refine p_iload 42 rfl rfl rfl ?_
      refine p_imul (z := 2 * (rl w)) 43 rfl rfl (w32_id ⟨(by omega), (by omega)⟩) ?_
      refine p_ishl (z := w32 (1 * 2 ^ (2 * (rl w)).toNat)) 44 rfl rfl (by omega) (by omega) rfl ?_
      refine p_ic_ge_f 47 rfl rfl (by omega) ?_
      refine p_aload 48 rfl rfl rfl ?_
      refine p_getfi (j := 9) (z := gv h1 24 9) 51 rfl rfl rfl (tg_24 S1) rfl rfl ?_
      refine p_aload 52 rfl rfl rfl ?_
      refine p_getfi (j := 10) (z := gv h1 24 10) 55 rfl rfl rfl (tg_24 S1) rfl rfl ?_
      refine p_ic_ge 58 88 rfl rfl rfl (fun c1 => ?_) (fun c1 => ?_)
      · skip
        refine p_ret rfl rfl ?_
        -- leaf 1: answer [] h=h1 
        exact K h1 ⟨kp, L1, R1, full (by omega)⟩ S1
      · skip
        refine p_aload 59 rfl rfl rfl ?_
        refine p_iload 61 rfl rfl rfl ?_
        refine p_iload 62 rfl rfl rfl ?_
        refine p_callv (le := [some (.inr (.inr 24)), some (.inl p), some (.inl (rl w)), none, none, none]) (as := [.inr (.inr 24), .inl p, .inl (rl w)]) (rest := []) 65 0 0 0 0 rfl rfl (Nat.le_of_ble_eq_true rfl) rfl (Nat.le_of_ble_eq_true rfl) rfl rfl (Nat.le_of_ble_eq_true rfl) rfl (Nat.le_of_ble_eq_true rfl) rfl (Nat.le_refl _) (Nat.le_refl _) rfl rfl (tg_24 S1) ?_
        refine x_picked S1 p (rl w) (by omega) (by omega) (by omega) (by omega) (fun j j0 j1 => by rw [e29]; exact hb j j0 j1) (fun r2 p2 => ?_)
        show Wp (d + 8) 0 0 M_X5_gatherSeen 65 [some (.inr (.inr 24)), some (.inl w), some (.inl dm), some (.inl (rl w)), some (.inl p), w5] [.inl r2] h1 _
        refine p_calls (le := [some (.inl r2), none, none, none, none, none, none]) (as := [.inl r2]) (rest := []) 68 0 0 0 0 rfl rfl (Nat.le_of_ble_eq_true rfl) rfl (Nat.le_of_ble_eq_true rfl) rfl rfl (Nat.le_of_ble_eq_true rfl) rfl (Nat.le_of_ble_eq_true rfl) rfl (Nat.le_refl _) (Nat.le_refl _) rfl rfl ?_
        refine x_told S1 r2  (fun r3 p3 => ?_)
        show Wp (d + 8) 0 0 M_X5_gatherSeen 68 [some (.inr (.inr 24)), some (.inl w), some (.inl dm), some (.inl (rl w)), some (.inl p), w5] [.inl r3] h1 _
        refine p_istore (ls' := [some (.inr (.inr 24)), some (.inl w), some (.inl dm), some (.inl (rl w)), some (.inl p), some (.inl r3)]) 70 rfl rfl (Nat.le_of_ble_eq_true rfl) rfl ?_
        refine p_iload 72 rfl rfl rfl ?_
        refine p_const 73 rfl rfl ?_
        refine p_ic_eq 76 82 rfl rfl rfl (fun c4 => ?_) (fun c4 => ?_)
        · skip
          refine p_iinc (y := p + 1) (ls' := [some (.inr (.inr 24)), some (.inl w), some (.inl dm), some (.inl (rl w)), some (.inl (p + 1)), some (.inl r3)]) 85 rfl rfl rfl (w32_id ⟨(by omega), (by omega)⟩) rfl ?_
          refine p_goto 37 rfl rfl ?_
          -- leaf 2: loop 37 [some (.inr (.inr 24)), some (.inl w), some (.inl dm), some (.inl (rl w)), some (.inl (p + 1)), some (.inl r3)] st=[] h=h1 
          have nh : ¬ isHo r2 := fun z => p3.ne.2 z c4
          refine skip _ (fun l y => ?_)
          rcases p2 with ⟨_, i, i0, i1⟩ | ⟨u, _⟩
          · have := y.1 i i0; rw [← epc, i1] at this; omega
          · rw [u, epc] at nh; exact nh y.2.1
        · skip
          have gl : letters r3 := by rcases p3 with ⟨u, e⟩ | ⟨u, e⟩; rw [e]; exact (told_rl u).1; exact absurd e c4
          refine p_aload 77 rfl rfl rfl ?_
          refine p_iload 79 rfl rfl rfl ?_
          refine p_callv (le := [some (.inr (.inr 24)), some (.inl r3)]) (as := [.inr (.inr 24), .inl r3]) (rest := []) 82 0 0 0 0 rfl rfl (Nat.le_of_ble_eq_true rfl) rfl (Nat.le_of_ble_eq_true rfl) rfl rfl (Nat.le_of_ble_eq_true rfl) rfl (Nat.le_of_ble_eq_true rfl) rfl (Nat.le_refl _) (Nat.le_refl _) rfl rfl (tg_24 S1) ?_
          refine x_gather S1 r3 (R.kp kB) (Pr.kp kp gsA_prep) gl R1 (by omega) (fun y5 p5 S5 => ?_)
          show Wp (d + 8) 0 0 M_X5_gatherSeen 82 [some (.inr (.inr 24)), some (.inl w), some (.inl dm), some (.inl (rl w)), some (.inl p), some (.inl r3)] [] y5 _
          refine p_iinc (y := p + 1) (ls' := [some (.inr (.inr 24)), some (.inl w), some (.inl dm), some (.inl (rl w)), some (.inl (p + 1)), some (.inl r3)]) 85 rfl rfl rfl (w32_id ⟨(by omega), (by omega)⟩) rfl ?_
          refine p_goto 37 rfl rfl ?_
          -- leaf 3: loop 37 [some (.inr (.inr 24)), some (.inl w), some (.inl dm), some (.inl (rl w)), some (.inl (p + 1)), some (.inl r3)] st=[] h=y5 
          obtain ⟨k5, X5, L', q2, q3⟩ := p5
          rw [Ws_congr kB] at q3
          have ho : isHo r2 := p3.ne.1 c4
          rcases p2 with ⟨u, _⟩ | ⟨u, hall⟩
          · rw [u] at ho; exact absurd ho not_ho_neg
          rcases p3 with ⟨_, e⟩ | ⟨n, _⟩
          · rw [epc] at u hall
            rw [e, u] at q3
            rw [u] at ho
            refine ih (p + 1) _ L' _ (by omega) (by omega) S5 (kp.trans (k5.wide rA_gsA)) (fun i => (k5.1 29 i rfl).trans (e29 i)) q2 ((X.trans q3).imp (fun l => ⟨?_, ?_⟩))
            · rintro (⟨x, px, y⟩ | y)
              · exact ⟨x, by omega, y⟩
              · exact ⟨p, by omega, hall, ho, y⟩
            · rintro ⟨x, px, y⟩
              by_cases e : x = p
              · rw [e] at y; exact Or.inr y.2.2
              · exact Or.inl ⟨x, by omega, y⟩
          · exact absurd ho n
  have L1 : ∀ (c : Nat) (i : Nat) (h1 : PH), (i : Int) + c = rl w → Shape h1 → Keep chA h h1 → (∀ j : Nat, j < i → CH h1 h dm j (sg w (rl w) j)) →
      Wp (d + 8) 0 0 M_X5_gatherSeen 8 [some (.inr (.inr 24)), some (.inl w), some (.inl dm), some (.inl (rl w)), some (.inl i), none] [] h1 q := by
    intro c
    induction c with
    | zero =>
      intro i h1 hi S1 kp ch
      refine p_iload 10 rfl rfl rfl ?_
      refine p_iload 11 rfl rfl rfl ?_
      refine p_ic_ge_t 34 rfl rfl (by omega) ?_
      refine p_const 35 rfl rfl ?_
      refine p_istore (ls' := [some (.inr (.inr 24)), some (.inl w), some (.inl dm), some (.inl (rl w)), some (.inl 0), none]) 37 rfl rfl (Nat.le_of_ble_eq_true rfl) rfl ?_
      -- leaf 1: loop 37 [some (.inr (.inr 24)), some (.inl w), some (.inl dm), some (.inl (rl w)), some (.inl 0), none] st=[] h=h1 
      exact L2 h1 kp (fun j hj => ch j (by omega)) N.toNat 0 none L h1 (by omega) (by omega) S1 (kp.wide chA_gsA) (fun _ => rfl) (RX.kp (fun a i z => kp.1 a i (decide_eq_false (by omega)))) ((Ext.refl RX.2.2.1 RX.2.2.2.1).imp (fun l => ⟨False.elim, fun ⟨x, px, y⟩ => by omega⟩))
    | succ c ih =>
      intro i h1 hi S1 kp ch
      have gi := g.2 i (by omega) (by omega)
      have kB := kp.wide chA_bkB
      refine p_iload 10 rfl rfl rfl ?_
      refine p_iload 11 rfl rfl rfl ?_
      refine p_ic_ge_f 14 rfl rfl (by omega) ?_
      refine p_aload 15 rfl rfl rfl ?_
      refine p_iload 17 rfl rfl rfl ?_
      refine p_iload 18 rfl rfl rfl ?_
      refine p_iload 19 rfl rfl rfl ?_
      refine p_iload 21 rfl rfl rfl ?_
      refine p_calls (le := [some (.inl w), some (.inl (rl w)), some (.inl i)]) (as := [.inl w, .inl (rl w), .inl i]) (rest := [.inl i, .inr (.inr 24)]) 24 0 0 0 0 rfl rfl (Nat.le_of_ble_eq_true rfl) rfl (Nat.le_of_ble_eq_true rfl) rfl rfl (Nat.le_of_ble_eq_true rfl) rfl (Nat.le_of_ble_eq_true rfl) rfl (Nat.le_refl _) (Nat.le_refl _) rfl rfl ?_
      refine x_sg S1 w (rl w) i (by omega) (by omega) (by omega) (by omega) ?_
      show Wp (d + 8) 0 0 M_X5_gatherSeen 24 [some (.inr (.inr 24)), some (.inl w), some (.inl dm), some (.inl (rl w)), some (.inl i), none] [.inl (sg w (rl w) i), .inl i, .inr (.inr 24)] h1 _
      refine p_iload 25 rfl rfl rfl ?_
      refine p_callv (le := [some (.inr (.inr 24)), some (.inl i), some (.inl (sg w (rl w) i)), some (.inl dm), none, none, none]) (as := [.inr (.inr 24), .inl i, .inl (sg w (rl w) i), .inl dm]) (rest := []) 28 0 0 0 0 rfl rfl (Nat.le_of_ble_eq_true rfl) rfl (Nat.le_of_ble_eq_true rfl) rfl rfl (Nat.le_of_ble_eq_true rfl) rfl (Nat.le_of_ble_eq_true rfl) rfl (Nat.le_refl _) (Nat.le_refl _) rfl rfl (tg_24 S1) ?_
      refine x_choose S1 i (sg w (rl w) i) dm (F.kp kB) (by omega) (by omega) gi.1 gi.2.1 (fun y1 p1 S1 => ?_)
      show Wp (d + 8) 0 0 M_X5_gatherSeen 28 [some (.inr (.inr 24)), some (.inl w), some (.inl dm), some (.inl (rl w)), some (.inl i), none] [] y1 _
      refine p_iinc (y := i + 1) (ls' := [some (.inr (.inr 24)), some (.inl w), some (.inl dm), some (.inl (rl w)), some (.inl (i + 1)), none]) 31 rfl rfl rfl (w32_id ⟨(by omega), (by omega)⟩) rfl ?_
      refine p_goto 8 rfl rfl ?_
      -- leaf 1: loop 8 [some (.inr (.inr 24)), some (.inl w), some (.inl dm), some (.inl (rl w)), some (.inl (i + 1)), none] st=[] h=y1 
      obtain ⟨k2, o2, c2⟩ := p1
      refine ih (i + 1) _ (by omega) S1 (kp.trans k2) (fun j hj => ?_)
      by_cases z : j = i
      · rw [z]; exact c2.kp kB (fun _ _ _ => rfl)
      · exact (ch j (by omega)).kp (Keep.rf _ _) (fun r r0 r1 => o2 _ (by omega))
  refine p_iload 1 rfl rfl rfl ?_
  refine p_calls (le := [some (.inl w)]) (as := [.inl w]) (rest := []) 4 0 0 0 0 rfl rfl (Nat.le_of_ble_eq_true rfl) rfl (Nat.le_of_ble_eq_true rfl) rfl rfl (Nat.le_of_ble_eq_true rfl) rfl (Nat.le_of_ble_eq_true rfl) rfl (Nat.le_refl _) (Nat.le_refl _) rfl rfl ?_
  refine x_rl S w  ?_
  show Wp (d + 8) 0 0 M_X5_gatherSeen 4 [some (.inr (.inr 24)), some (.inl w), some (.inl dm), none, none, none] [.inl (rl w)] h _
  refine p_istore (ls' := [some (.inr (.inr 24)), some (.inl w), some (.inl dm), some (.inl (rl w)), none, none]) 5 rfl rfl (Nat.le_of_ble_eq_true rfl) rfl ?_
  refine p_const 6 rfl rfl ?_
  refine p_istore (ls' := [some (.inr (.inr 24)), some (.inl w), some (.inl dm), some (.inl (rl w)), some (.inl 0), none]) 8 rfl rfl (Nat.le_of_ble_eq_true rfl) rfl ?_
  -- leaf 1: loop 8 [some (.inr (.inr 24)), some (.inl w), some (.inl dm), some (.inl (rl w)), some (.inl 0), none] st=[] h=h 
  exact L1 (rl w).toNat 0 h (by omega) S (Keep.rf _ _) (fun j hj => by omega)

