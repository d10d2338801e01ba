/-! SEARCH, the class's side -/
def CXr (h : PH) (C : List P4) : Prop := gv h 59 3 = C.length ∧ C.length ≤ 600 ∧ (∀ c ∈ C, ∀ p ∈ c, b40 p) ∧ ∀ (c : Nat) (x : P4), C[c]? = some x → x.length = 4 ∧ ∀ p : Nat, p < 4 → gv h 60 (4 * (c : Int) + p) = pad x p
theorem CXr.kp {h h' : PH} {C : List P4} (X : CXr h C) (e3 : gv h' 59 3 = gv h 59 3) (e60 : ∀ i, gv h' 60 i = gv h 60 i) : CXr h' C := ⟨e3.trans X.1, X.2.1, X.2.2.1, fun c x hx => ⟨(X.2.2.2 c x hx).1, fun p hp => (e60 _).trans ((X.2.2.2 c x hx).2 p hp)⟩⟩
theorem low_zero {M : Int} (bm : b40 M) {n : Int} (n0 : 0 ≤ n) (n1 : n ≤ 40) : w64 (M / 2 ^ n.toNat * 2 ^ n.toNat) = M ↔ ∀ j, 0 ≤ j → j < 40 → bit M j = 1 → n ≤ j := by
  obtain ⟨m0, m1⟩ := bm
  have hp : (0 : Int) < 2 ^ n.toNat := Int.pow_pos (by decide)
  have le : M / 2 ^ n.toNat * 2 ^ n.toNat ≤ M := Int.ediv_mul_le M (Int.ne_of_gt hp)
  have ge : 0 ≤ M / 2 ^ n.toNat * 2 ^ n.toNat := Int.mul_nonneg (Int.ediv_nonneg m0 (Int.le_of_lt hp)) (Int.le_of_lt hp)
  rw [w64_id ⟨by omega, by omega⟩]
  have e : M / 2 ^ n.toNat * 2 ^ n.toNat = M ↔ M % 2 ^ n.toNat = 0 := by
    have := Int.emod_add_mul_ediv M (2 ^ n.toNat)
    rw [Int.mul_comm] at this
    omega
  rw [e]
  have c : M % 2 ^ n.toNat = ((M.toNat % 2 ^ n.toNat : Nat) : Int) := by
    rw [Int.natCast_emod, Int.toNat_of_nonneg m0, Int.natCast_pow]; rfl
  rw [c]
  constructor
  · intro z j j0 j1 b
    apply Classical.byContradiction
    intro lt
    rw [bit_tb m0] at b
    have z' : M.toNat % 2 ^ n.toNat = 0 := by omega
    have t := Nat.testBit_mod_two_pow M.toNat n.toNat j.toNat
    rw [z', Nat.zero_testBit, decide_eq_true (show j.toNat < n.toNat by omega), Bool.true_and] at t
    rw [← t] at b
    exact absurd b (by decide)
  · intro H
    have z' : M.toNat % 2 ^ n.toNat = 0 := by
      apply Nat.eq_of_testBit_eq
      intro i
      rw [Nat.testBit_mod_two_pow, Nat.zero_testBit]
      by_cases lt : i < n.toNat
      · rw [decide_eq_true lt, Bool.true_and]
        cases t : M.toNat.testBit i
        · rfl
        · exfalso
          have y := H i (by omega) (by omega) (by rw [bit_tb m0, Int.toNat_natCast, if_pos t])
          omega
      · rw [decide_eq_false lt, Bool.false_and]
    omega
theorem x_canDo {d : Nat} {h : PH} {q : PQ} (S : Shape h) (s least more : Int) {C : List P4} (X : CXr h C) (bs : b40 s) (l0 : 0 ≤ least) (l1 : least ≤ 40) (K1 : canL C s least more → q (some (.inl 1)) h) (K2 : ¬ canL C s least more → q (some (.inl 0)) h) :
    Wp (d + 2) 0 0 M_X4_canDo 0 [some (.inr (.inr 59)), some (.inr (.inl s)), none, some (.inl least), some (.inl more), none, none, none, none, none, none, none] [] h q := by
  obtain ⟨x1, x2, x3, x4⟩ := X
  have L : ∀ (c n : Nat) (i : Int) (w6 w7 w8 w10 : Option PV), i = n → n + c = C.length → (∀ (j : Nat) (x : P4), j < n → C[j]? = some x → ∃ p ∈ x, okPt p s least more) → Wp (d + 2) 0 0 M_X4_canDo 3 [some (.inr (.inr 59)), some (.inr (.inl s)), none, some (.inl least), some (.inl more), some (.inl i), w6, w7, w8, none, w10, none] [] h q := by
    intro c
    induction c with
    | zero =>
      intro n i w6 w7 w8 w10 hi hn al
      refine p_iload 5 rfl rfl rfl ?_
      refine p_aload 6 rfl rfl rfl ?_
      refine p_getfi (j := 3) (z := gv h 59 3) 9 rfl rfl rfl (tg_59 S) rfl rfl ?_
      refine p_ic_ge_t 108 rfl rfl (by omega) ?_
      refine p_const 109 rfl rfl ?_
      refine p_zret rfl rfl (by decide) ?_
      -- leaf 1: answer [.inl 1] h=h 
      refine K1 (fun x hx => ?_)
      obtain ⟨j, hj, e⟩ := List.getElem_of_mem hx
      exact al j x (by omega) (by rw [← e]; exact List.getElem?_eq_getElem hj)
    | succ c ih =>
      intro n i w6 w7 w8 w10 hi hn al
      have hC : C[n]? = some (C[n]'(by omega)) := List.getElem?_eq_getElem (by omega)
      generalize C[n]'(by omega) = x at hC
      obtain ⟨xl, xc⟩ := x4 n x hC
      have x40 : ∀ p ∈ x, b40 p := x3 x (List.mem_of_getElem? hC)
      have J : ∀ (m k : Nat) (y can : Int) (w8 w10 : Option PV), y = k → k + m = 4 → tru can (∃ p : Nat, p < k ∧ okPt (pad x p) s least more) → Wp (d + 2) 0 0 M_X4_canDo 18 [some (.inr (.inr 59)), some (.inr (.inl s)), none, some (.inl least), some (.inl more), some (.inl i), some (.inl can), some (.inl y), w8, none, w10, none] [] h q := by
        intro m
        have fin : ∀ (can y : Int) (w8 w10 : Option PV), tru can (∃ p : Nat, p < 4 ∧ okPt (pad x p) s least more) → Wp (d + 2) 0 0 M_X4_canDo 95 [some (.inr (.inr 59)), some (.inr (.inl s)), none, some (.inl least), some (.inl more), some (.inl i), some (.inl can), some (.inl y), w8, none, w10, none] [] h q := by
          intro can y w8 w10 tb
          refine p_iload 97 rfl rfl rfl ?_
          refine p_if_ne 100 102 rfl rfl rfl (fun c1 => ?_) (fun c1 => ?_)
          · skip
            refine p_iinc (y := i + 1) (ls' := [some (.inr (.inr 59)), some (.inr (.inl s)), none, some (.inl least), some (.inl more), some (.inl (i + 1)), some (.inl can), some (.inl y), w8, none, w10, none]) 105 rfl rfl rfl (w32_id ⟨(by omega), (by omega)⟩) rfl ?_
            refine p_goto 3 rfl rfl ?_
            -- leaf 1: loop 3 [some (.inr (.inr 59)), some (.inr (.inl s)), none, some (.inl least), some (.inl more), some (.inl (i + 1)), some (.inl can), some (.inl y), w8, none, w10, none] st=[] h=h 
            refine ih (n + 1) (i + 1) _ _ _ _ (by omega) (by omega) (fun j z hj hz => ?_)
            by_cases e : j = n
            · rw [e, hC] at hz
              cases hz
              rcases tb with ⟨_, p, hp, o⟩ | ⟨z0, _⟩
              · refine ⟨pad x p, ?_, o⟩
                unfold pad
                rw [List.getD_eq_getElem?_getD, List.getElem?_eq_getElem (by omega)]
                exact List.getElem_mem _
              · omega
            · exact al j z (by omega) hz
          · skip
            refine p_const 101 rfl rfl ?_
            refine p_zret rfl rfl (by decide) ?_
            -- leaf 2: answer [.inl 0] h=h 
            refine K2 (fun H => ?_)
            obtain ⟨p, hp, o⟩ := H x (List.mem_of_getElem? hC)
            rcases tb with ⟨z, _⟩ | ⟨_, nb⟩
            · omega
            · obtain ⟨j, hj, e⟩ := List.getElem_of_mem hp
              refine nb ⟨j, by omega, ?_⟩
              unfold pad
              rw [List.getD_eq_getElem?_getD, List.getElem?_eq_getElem hj]
              show okPt x[j] s least more
              rw [e]; exact o
        induction m with
        | zero =>
          intro k y can w8 w10 hy hk tb
          have tb4 : tru can (∃ p : Nat, p < 4 ∧ okPt (pad x p) s least more) := by rw [show k = 4 by omega] at tb; exact tb
          refine p_iload 20 rfl rfl rfl ?_
          refine p_const 21 rfl rfl ?_
          refine p_ic_ge_t 95 rfl rfl (by omega) ?_
          -- leaf 1: loop 95 [some (.inr (.inr 59)), some (.inr (.inl s)), none, some (.inl least), some (.inl more), some (.inl i), some (.inl can), some (.inl y), w8, none, w10, none] st=[] h=h 
          exact fin _ _ _ _ tb4
        | succ m ihm =>
          intro k y can w8 w10 hy hk tb
          have e60 : gv h 60 (i * 4 + y) = pad x k := by rw [hi, hy, Int.mul_comm]; exact xc k (by omega)
          have bp : b40 (pad x k) := by
            unfold pad
            rw [List.getD_eq_getElem?_getD, List.getElem?_eq_getElem (by omega)]
            exact x40 _ (List.getElem_mem _)
          have mb := misN_bits bp bs
          have bm : b40 (an64 (pad x k) (xo64 s (-1))) := mb.1
          have lz : w64 (an64 (pad x k) (xo64 s (-1)) / 2 ^ least.toNat * 2 ^ least.toNat) = an64 (pad x k) (xo64 s (-1)) ↔ ∀ j, 0 ≤ j → j < 40 → bit (misN (pad x k) s) j = 1 → least ≤ j := low_zero bm l0 l1
          have nxt : ∀ can' : Int, (can' = 1 ∧ okPt (pad x k) s least more) ∨ (can' = 0 ∧ ¬ okPt (pad x k) s least more) → can = 0 → ∀ (a b : Option PV), Wp (d + 2) 0 0 M_X4_canDo 18 [some (.inr (.inr 59)), some (.inr (.inl s)), none, some (.inl least), some (.inl more), some (.inl i), some (.inl can'), some (.inl (y + 1)), a, none, b, none] [] h q := by
            intro can' z c0 a b
            refine ihm (k + 1) (y + 1) can' a b (by omega) (by omega) ?_
            rcases z with ⟨z1, z2⟩ | ⟨z1, z2⟩
            · exact Or.inl ⟨z1, k, by omega, z2⟩
            · refine Or.inr ⟨z1, fun ⟨p, hp, o⟩ => ?_⟩
              rcases tb with ⟨t, _⟩ | ⟨_, t⟩
              · omega
              · by_cases e : p = k
                · rw [e] at o; exact z2 o
                · exact t ⟨p, by omega, o⟩
          have can01 : can = 0 ∨ can = 1 := by rcases tb with z | z <;> omega
          refine p_iload 20 rfl rfl rfl ?_
          refine p_const 21 rfl rfl ?_
          refine p_ic_ge_f 24 rfl rfl (by omega) ?_
          refine p_iload 26 rfl rfl rfl ?_
          refine p_if_ne 29 95 rfl rfl rfl (fun c1 => ?_) (fun c1 => ?_)
          · skip
            -- leaf 1: loop 95 [some (.inr (.inr 59)), some (.inr (.inl s)), none, some (.inl least), some (.inl more), some (.inl i), some (.inl can), some (.inl y), w8, none, w10, none] st=[] h=h 
            refine fin _ _ _ _ ?_
            rcases tb with ⟨t, p, hp, o⟩ | ⟨t, _⟩
            · exact Or.inl ⟨t, p, by omega, o⟩
            · omega
          · skip
            refine p_aload 30 rfl rfl rfl ?_
            refine p_getfr (j := 2) (z := 60) 33 rfl rfl rfl (tg_59 S) rfl (fi_59_2 S) ?_
            refine p_iload 35 rfl rfl rfl ?_
            refine p_const 36 rfl rfl ?_
            refine p_imul (z := i * 4) 37 rfl rfl (w32_id ⟨(by omega), (by omega)⟩) ?_
            refine p_iload 39 rfl rfl rfl ?_
            refine p_iadd (z := (i * 4) + y) 40 rfl rfl (w32_id ⟨(by omega), (by omega)⟩) ?_
            refine p_lald (w := 2400) (z := (pad x k)) 41 rfl rfl (tg_60 S) (ln_60 S) (by omega) (by omega) e60 ?_
            refine p_lstore (ls' := [some (.inr (.inr 59)), some (.inr (.inl s)), none, some (.inl least), some (.inl more), some (.inl i), some (.inl can), some (.inl y), some (.inr (.inl (pad x k))), none, w10, none]) 43 rfl rfl (Nat.le_of_ble_eq_true rfl) rfl ?_
            refine p_lload 45 rfl rfl rfl ?_
            refine p_lload 46 rfl rfl rfl ?_
            refine p_lconst 49 rfl rfl ?_
            refine p_lxor (z := xo64 s (-1)) 50 rfl rfl rfl ?_
            refine p_land (z := an64 (pad x k) (xo64 s (-1))) 51 rfl rfl rfl ?_
            refine p_lstore (ls' := [some (.inr (.inr 59)), some (.inr (.inl s)), none, some (.inl least), some (.inl more), some (.inl i), some (.inl can), some (.inl y), some (.inr (.inl (pad x k))), none, some (.inr (.inl (an64 (pad x k) (xo64 s (-1))))), none]) 53 rfl rfl (Nat.le_of_ble_eq_true rfl) rfl ?_
            refine p_lload 55 rfl rfl rfl ?_
            refine p_lconst 56 rfl rfl ?_
            refine p_lc_eq 57 60 86 rfl rfl rfl rfl rfl (fun c2 => ?_) (fun c2 => ?_)
            · skip
              refine p_const 87 rfl rfl ?_
              refine p_istore (ls' := [some (.inr (.inr 59)), some (.inr (.inl s)), none, some (.inl least), some (.inl more), some (.inl i), some (.inl 0), some (.inl y), some (.inr (.inl (pad x k))), none, some (.inr (.inl (an64 (pad x k) (xo64 s (-1))))), none]) 89 rfl rfl (Nat.le_of_ble_eq_true rfl) rfl ?_
              refine p_iinc (y := y + 1) (ls' := [some (.inr (.inr 59)), some (.inr (.inl s)), none, some (.inl least), some (.inl more), some (.inl i), some (.inl 0), some (.inl (y + 1)), some (.inr (.inl (pad x k))), none, some (.inr (.inl (an64 (pad x k) (xo64 s (-1))))), none]) 92 rfl rfl rfl (w32_id ⟨(by omega), (by omega)⟩) rfl ?_
              refine p_goto 18 rfl rfl ?_
              -- leaf 2: loop 18 [some (.inr (.inr 59)), some (.inr (.inl s)), none, some (.inl least), some (.inl more), some (.inl i), some (.inl 0), some (.inl (y + 1)), some (.inr (.inl (pad x k))), none, some (.inr (.inl (an64 (pad x k) (xo64 s (-1))))), none] st=[] h=h 
              exact nxt 0 (Or.inr ⟨rfl, fun o => o.1 c2⟩) (by omega) _ _
            · skip
              refine p_lload 62 rfl rfl rfl ?_
              refine p_iload 63 rfl rfl rfl ?_
              refine p_lshr (z := (an64 (pad x k) (xo64 s (-1))) / 2 ^ (least).toNat) 64 rfl rfl (by omega) (by omega) rfl ?_
              refine p_iload 65 rfl rfl rfl ?_
              refine p_lshl (z := w64 (((an64 (pad x k) (xo64 s (-1))) / 2 ^ (least).toNat) * 2 ^ (least).toNat)) 66 rfl rfl (by omega) (by omega) rfl ?_
              refine p_lload 68 rfl rfl rfl ?_
              refine p_lc_ne 69 72 86 rfl rfl rfl rfl rfl (fun c3 => ?_) (fun c3 => ?_)
              · skip
                refine p_const 87 rfl rfl ?_
                refine p_istore (ls' := [some (.inr (.inr 59)), some (.inr (.inl s)), none, some (.inl least), some (.inl more), some (.inl i), some (.inl 0), some (.inl y), some (.inr (.inl (pad x k))), none, some (.inr (.inl (an64 (pad x k) (xo64 s (-1))))), none]) 89 rfl rfl (Nat.le_of_ble_eq_true rfl) rfl ?_
                refine p_iinc (y := y + 1) (ls' := [some (.inr (.inr 59)), some (.inr (.inl s)), none, some (.inl least), some (.inl more), some (.inl i), some (.inl 0), some (.inl (y + 1)), some (.inr (.inl (pad x k))), none, some (.inr (.inl (an64 (pad x k) (xo64 s (-1))))), none]) 92 rfl rfl rfl (w32_id ⟨(by omega), (by omega)⟩) rfl ?_
                refine p_goto 18 rfl rfl ?_
                -- leaf 3: loop 18 [some (.inr (.inr 59)), some (.inr (.inl s)), none, some (.inl least), some (.inl more), some (.inl i), some (.inl 0), some (.inl (y + 1)), some (.inr (.inl (pad x k))), none, some (.inr (.inl (an64 (pad x k) (xo64 s (-1))))), none] st=[] h=h 
                exact nxt 0 (Or.inr ⟨rfl, fun o => c3 (lz.2 o.2.1)⟩) (by omega) _ _
              · skip
                refine p_lload 74 rfl rfl rfl ?_
                refine p_calls (le := [some (.inr (.inl (an64 (pad x k) (xo64 s (-1))))), none]) (as := [.inr (.inl (an64 (pad x k) (xo64 s (-1))))]) (rest := []) 77 0 0 0 0 rfl rfl (Nat.le_of_ble_eq_true rfl) rfl (Nat.le_of_ble_eq_true rfl) rfl rfl (Nat.le_of_ble_eq_true rfl) rfl (Nat.le_of_ble_eq_true rfl) rfl (Nat.le_refl _) (Nat.le_refl _) rfl rfl ?_
                refine x_bitCount S (an64 (pad x k) (xo64 s (-1))) bm ?_
                show Wp (d + 2) 0 0 M_X4_canDo 77 [some (.inr (.inr 59)), some (.inr (.inl s)), none, some (.inl least), some (.inl more), some (.inl i), some (.inl can), some (.inl y), some (.inr (.inl (pad x k))), none, some (.inr (.inl (an64 (pad x k) (xo64 s (-1))))), none] [.inl (bcn (an64 (pad x k) (xo64 s (-1))))] h _
                refine p_iload 79 rfl rfl rfl ?_
                refine p_ic_gt 82 86 rfl rfl rfl (fun c5 => ?_) (fun c5 => ?_)
                · skip
                  refine p_const 87 rfl rfl ?_
                  refine p_istore (ls' := [some (.inr (.inr 59)), some (.inr (.inl s)), none, some (.inl least), some (.inl more), some (.inl i), some (.inl 0), some (.inl y), some (.inr (.inl (pad x k))), none, some (.inr (.inl (an64 (pad x k) (xo64 s (-1))))), none]) 89 rfl rfl (Nat.le_of_ble_eq_true rfl) rfl ?_
                  refine p_iinc (y := y + 1) (ls' := [some (.inr (.inr 59)), some (.inr (.inl s)), none, some (.inl least), some (.inl more), some (.inl i), some (.inl 0), some (.inl (y + 1)), some (.inr (.inl (pad x k))), none, some (.inr (.inl (an64 (pad x k) (xo64 s (-1))))), none]) 92 rfl rfl rfl (w32_id ⟨(by omega), (by omega)⟩) rfl ?_
                  refine p_goto 18 rfl rfl ?_
                  -- leaf 4: loop 18 [some (.inr (.inr 59)), some (.inr (.inl s)), none, some (.inl least), some (.inl more), some (.inl i), some (.inl 0), some (.inl (y + 1)), some (.inr (.inl (pad x k))), none, some (.inr (.inl (an64 (pad x k) (xo64 s (-1))))), none] st=[] h=h 
                  exact nxt 0 (Or.inr ⟨rfl, fun o => by have z : bcn (an64 (pad x k) (xo64 s (-1))) ≤ more := o.2.2; omega⟩) (by omega) _ _
                · skip
                  refine p_const 83 rfl rfl ?_
                  refine p_goto 87 rfl rfl ?_
                  refine p_istore (ls' := [some (.inr (.inr 59)), some (.inr (.inl s)), none, some (.inl least), some (.inl more), some (.inl i), some (.inl 1), some (.inl y), some (.inr (.inl (pad x k))), none, some (.inr (.inl (an64 (pad x k) (xo64 s (-1))))), none]) 89 rfl rfl (Nat.le_of_ble_eq_true rfl) rfl ?_
                  refine p_iinc (y := y + 1) (ls' := [some (.inr (.inr 59)), some (.inr (.inl s)), none, some (.inl least), some (.inl more), some (.inl i), some (.inl 1), some (.inl (y + 1)), some (.inr (.inl (pad x k))), none, some (.inr (.inl (an64 (pad x k) (xo64 s (-1))))), none]) 92 rfl rfl rfl (w32_id ⟨(by omega), (by omega)⟩) rfl ?_
                  refine p_goto 18 rfl rfl ?_
                  -- leaf 5: loop 18 [some (.inr (.inr 59)), some (.inr (.inl s)), none, some (.inl least), some (.inl more), some (.inl i), some (.inl 1), some (.inl (y + 1)), some (.inr (.inl (pad x k))), none, some (.inr (.inl (an64 (pad x k) (xo64 s (-1))))), none] st=[] h=h 
                  exact nxt 1 (Or.inl ⟨rfl, by assumption, lz.1 (by omega), show bcn (an64 (pad x k) (xo64 s (-1))) ≤ more by omega⟩) (by omega) _ _
      refine p_iload 5 rfl rfl rfl ?_
      refine p_aload 6 rfl rfl rfl ?_
      refine p_getfi (j := 3) (z := gv h 59 3) 9 rfl rfl rfl (tg_59 S) rfl rfl ?_
      refine p_ic_ge_f 12 rfl rfl (by omega) ?_
      refine p_const 13 rfl rfl ?_
      refine p_istore (ls' := [some (.inr (.inr 59)), some (.inr (.inl s)), none, some (.inl least), some (.inl more), some (.inl i), some (.inl 0), w7, w8, none, w10, none]) 15 rfl rfl (Nat.le_of_ble_eq_true rfl) rfl ?_
      refine p_const 16 rfl rfl ?_
      refine p_istore (ls' := [some (.inr (.inr 59)), some (.inr (.inl s)), none, some (.inl least), some (.inl more), some (.inl i), some (.inl 0), some (.inl 0), w8, none, w10, none]) 18 rfl rfl (Nat.le_of_ble_eq_true rfl) rfl ?_
      -- leaf 1: loop 18 [some (.inr (.inr 59)), some (.inr (.inl s)), none, some (.inl least), some (.inl more), some (.inl i), some (.inl 0), some (.inl 0), w8, none, w10, none] st=[] h=h 
      exact J 4 0 0 0 _ _ rfl rfl (Or.inr ⟨rfl, fun ⟨p, hp, _⟩ => by omega⟩)
  refine p_const 1 rfl rfl ?_
  refine p_istore (ls' := [some (.inr (.inr 59)), some (.inr (.inl s)), none, some (.inl least), some (.inl more), some (.inl 0), none, none, none, none, none, none]) 3 rfl rfl (Nat.le_of_ble_eq_true rfl) rfl ?_
  -- leaf 1: loop 3 [some (.inr (.inr 59)), some (.inr (.inl s)), none, some (.inl least), some (.inl more), some (.inl 0), none, none, none, none, none, none] st=[] h=h 
  exact L C.length 0 0 _ _ _ _ rfl (by omega) (fun j x hj => by omega)
def c61 (a _i : Int) : Bool := decide (a = 61)
theorem x_search {C : List P4} {m : Int} (m0 : 0 ≤ m) (m40 : m ≤ 40) : ∀ (r d : Nat) (q : PQ) (least s depth size : Int) (T : List Int) (h : PH), size = depth + r → 0 ≤ depth → size ≤ 4 → 0 ≤ least → least ≤ 40 → Shape h → CXr h C → setL s T →
    (∀ h', (Keep c61 h h' ∧ (∀ i, i < depth → gv h' 61 i = gv h 61 i) ∧ ∃ l, fnd C m r least T = some l ∧ ∀ (i : Nat) w, l[i]? = some w → gv h' 61 (depth + i) = w) → Shape h' → q (some (.inl 1)) h') →
    (∀ h', (Keep c61 h h' ∧ (∀ i, i < depth → gv h' 61 i = gv h 61 i) ∧ fnd C m r least T = none) → Shape h' → q (some (.inl 0)) h') →
    Wp (d + r + 3) 0 0 M_X4_search 0 [some (.inr (.inr 59)), some (.inl m), some (.inl least), some (.inr (.inl s)), none, some (.inl depth), some (.inl size), none] [] h q := by
  intro r
  induction r with
  | zero =>
    intro d q least s depth size T h hs d0 s4 l0 l1 S X e K1 K2
    have cz := canL_zero (m := m) (least := least) X.2.2.1 e
    have e0 : size - depth = 0 := by omega
    refine p_aload 1 rfl rfl rfl ?_
    refine p_lload 2 rfl rfl rfl ?_
    refine p_iload 3 rfl rfl rfl ?_
    refine p_iload 5 rfl rfl rfl ?_
    refine p_iload 7 rfl rfl rfl ?_
    refine p_isub (z := size - depth) 8 rfl rfl (w32_id ⟨(by omega), (by omega)⟩) ?_
    refine p_callv (le := [some (.inr (.inr 59)), some (.inr (.inl s)), none, some (.inl least), some (.inl (size - depth)), none, none, none, none, none, none, none]) (as := [.inr (.inr 59), .inr (.inl s), .inl least, .inl (size - depth)]) (rest := []) 11 0 0 0 0 rfl rfl (Nat.le_of_ble_eq_true rfl) rfl (Nat.le_of_ble_eq_true rfl) rfl rfl (Nat.le_of_ble_eq_true rfl) rfl (Nat.le_of_ble_eq_true rfl) rfl (Nat.le_refl _) (Nat.le_refl _) rfl rfl (tg_59 S) ?_
    refine x_canDo S s least (size - depth) X e.1 l0 l1 (fun c1 => ?_) (fun c1 => ?_)
    · show Wp (d + 3) 0 0 M_X4_search 11 [some (.inr (.inr 59)), some (.inl m), some (.inl least), some (.inr (.inl s)), none, some (.inl depth), some (.inl size), none] [.inl 1] h _
      rw [e0] at c1
      refine p_if_ne_t 16 rfl rfl (by decide) ?_
      refine p_iload 18 rfl rfl rfl ?_
      refine p_iload 20 rfl rfl rfl ?_
      refine p_ic_ge 23 29 rfl rfl rfl (fun c2 => ?_) (fun c2 => ?_)
      · skip
        refine p_const 30 rfl rfl ?_
        refine p_zret rfl rfl (by decide) ?_
        -- leaf 1: answer [.inl 1] h=h 
        exact K1 h ⟨Keep.rf _ _, fun _ _ => rfl, [], fnd_zero.1 (cz.1 c1), fun i w hw => by cases hw⟩ S
      · skip
        refine p_iload 25 rfl rfl rfl ?_
        refine p_const 26 rfl rfl ?_
        refine p_ic_lt 29 31 rfl rfl rfl (fun c3 => ?_) (fun c3 => ?_)
        · skip
          refine p_iload 32 rfl rfl rfl ?_
          refine p_istore (ls' := [some (.inr (.inr 59)), some (.inl m), some (.inl least), some (.inr (.inl s)), none, some (.inl depth), some (.inl size), some (.inl least)]) 34 rfl rfl (Nat.le_of_ble_eq_true rfl) rfl ?_
          -- leaf 2: loop 34 [some (.inr (.inr 59)), some (.inl m), some (.inl least), some (.inr (.inl s)), none, some (.inl depth), some (.inl size), some (.inl least)] st=[] h=h 
          exfalso; omega
        · skip
          refine p_const 30 rfl rfl ?_
          refine p_zret rfl rfl (by decide) ?_
          -- leaf 3: answer [.inl 1] h=h 
          exfalso; omega
    · show Wp (d + 3) 0 0 M_X4_search 11 [some (.inr (.inr 59)), some (.inl m), some (.inl least), some (.inr (.inl s)), none, some (.inl depth), some (.inl size), none] [.inl 0] h _
      refine p_if_ne_f 14 rfl rfl (by decide) ?_
      refine p_const 15 rfl rfl ?_
      refine p_zret rfl rfl (by decide) ?_
      -- leaf 4: answer [.inl 0] h=h 
      exact K2 h ⟨Keep.rf _ _, fun _ _ => rfl, fnd_zero.2 (fun H => c1 (by rw [e0]; exact cz.2 H))⟩ S
  | succ r ih =>
    intro d q least s depth size T h hs d0 s4 l0 l1 S X e K1 K2
    have ihs := fun q least s depth size T h => ih d q least s depth size T h
    show Wp (d + r + 1 + 3) 0 0 M_X4_search 0 _ _ _ _
    generalize hD : d + r = D at ihs
    have e0 : size - depth = (((r + 1 : Nat) : Int)) := by omega
    have J : ∀ (c : Nat) (x : Int) (h1 : PH), x = least + ((m - least).toNat - c : Nat) → c ≤ (m - least).toNat → Shape h1 → Keep c61 h h1 → (∀ i, i < depth → gv h1 61 i = gv h 61 i) → fnd C m (r + 1) least T = flF (fun s T => fnd C m r s T) T c x →
        Wp (D + 4) 0 0 M_X4_search 34 [some (.inr (.inr 59)), some (.inl m), some (.inl least), some (.inr (.inl s)), none, some (.inl depth), some (.inl size), some (.inl x)] [] h1 q := by
      intro c
      induction c with
      | zero =>
        intro x h1 hx hc S1 k1 o ef
        refine p_iload 36 rfl rfl rfl ?_
        refine p_iload 37 rfl rfl rfl ?_
        refine p_ic_ge_t 81 rfl rfl (by omega) ?_
        refine p_const 82 rfl rfl ?_
        refine p_zret rfl rfl (by decide) ?_
        -- leaf 1: answer [.inl 0] h=h1 
        exact K2 h1 ⟨k1, o, ef⟩ S1
      | succ c ihc =>
        intro x h1 hx hc S1 k1 o ef
        have sa := setL_add (x := x) e (by omega) (by omega)
        refine p_iload 36 rfl rfl rfl ?_
        refine p_iload 37 rfl rfl rfl ?_
        refine p_ic_ge_f 40 rfl rfl (by omega) ?_
        refine p_aload 41 rfl rfl rfl ?_
        refine p_getfr (j := 4) (z := 61) 44 rfl rfl rfl (tg_59 S1) rfl (fi_59_4 S1) ?_
        refine p_iload 46 rfl rfl rfl ?_
        refine p_iload 48 rfl rfl rfl ?_
        refine p_iast (w := 4) 49 rfl rfl (by decide) (tg_61 S1) (ln_61 S1) (by omega) (by omega) ?_
        refine p_nmh (fun y1 e1 => ?_)
        have S1 : Shape y1 := by rw [e1]; exact S1.svA fa_61 _ _
        refine p_aload 50 rfl rfl rfl ?_
        refine p_iload 51 rfl rfl rfl ?_
        refine p_iload 53 rfl rfl rfl ?_
        refine p_const 54 rfl rfl ?_
        refine p_iadd (z := x + 1) 55 rfl rfl (w32_id ⟨(by omega), (by omega)⟩) ?_
        refine p_lload 56 rfl rfl rfl ?_
        refine p_lconst 57 rfl rfl ?_
        refine p_iload 59 rfl rfl rfl ?_
        refine p_lshl (z := w64 (1 * 2 ^ (x).toNat)) 60 rfl rfl (by omega) (by omega) rfl ?_
        refine p_lor (z := or64 s (w64 (1 * 2 ^ (x).toNat))) 61 rfl rfl rfl ?_
        refine p_iload 63 rfl rfl rfl ?_
        refine p_const 64 rfl rfl ?_
        refine p_iadd (z := depth + 1) 65 rfl rfl (w32_id ⟨(by omega), (by omega)⟩) ?_
        refine p_iload 67 rfl rfl rfl ?_
        refine p_calls (le := [some (.inr (.inr 59)), some (.inl m), some (.inl (x + 1)), some (.inr (.inl (or64 s (w64 (1 * 2 ^ (x).toNat))))), none, some (.inl (depth + 1)), some (.inl size), none]) (as := [.inr (.inr 59), .inl m, .inl (x + 1), .inr (.inl (or64 s (w64 (1 * 2 ^ (x).toNat)))), .inl (depth + 1), .inl size]) (rest := []) 70 0 0 0 0 rfl rfl (Nat.le_of_ble_eq_true rfl) rfl (Nat.le_of_ble_eq_true rfl) rfl rfl (Nat.le_of_ble_eq_true rfl) rfl (Nat.le_of_ble_eq_true rfl) rfl (Nat.le_refl _) (Nat.le_refl _) rfl rfl ?_
        refine ihs _ (x + 1) (or64 s (w64 (1 * 2 ^ (x).toNat))) (depth + 1) size (x :: T) _ (by omega) (by omega) (by omega) (by omega) (by omega) S1 (X.kp (by rw [e1, sv_ne (by decide)]; exact k1.1 59 3 rfl) (fun i => by rw [e1, sv_ne (by decide)]; exact k1.1 60 i rfl)) sa (fun y2 p2 S2 => ?_) (fun y2 p2 S2 => ?_)
        · show Wp (D + 4) 0 0 M_X4_search 70 [some (.inr (.inr 59)), some (.inl m), some (.inl least), some (.inr (.inl s)), none, some (.inl depth), some (.inl size), some (.inl x)] [.inl 1] y2 _
          refine p_if_eq_f 73 rfl rfl (by decide) ?_
          refine p_const 74 rfl rfl ?_
          refine p_zret rfl rfl (by decide) ?_
          -- leaf 1: answer [.inl 1] h=y2 
          obtain ⟨k2, o2, l, hl, w2⟩ := p2
          have k1' : Keep c61 h1 y1 := by rw [e1]; exact (Keep.rf _ _).sv rfl _
          refine K1 _ ⟨(k1.trans k1').trans k2, fun i hi => by rw [o2 i (by omega), e1, sv_nf (by omega)]; exact o i hi, x :: l, ?_, fun i w hw => ?_⟩ S2
          · rw [ef]
            show (match fnd C m r (x + 1) (x :: T) with | some l => some (x :: l) | none => flF (fun s T => fnd C m r s T) T c (x + 1)) = _
            rw [hl]
          · cases i with
            | zero =>
              have hw : some x = some w := hw
              cases hw
              rw [o2 _ (by show depth + ((0 : Nat) : Int) < depth + 1; omega), e1, show depth + ((0 : Nat) : Int) = depth by omega, sv_eq]
            | succ i =>
              have y := w2 i w hw
              rw [show depth + ((i + 1 : Nat) : Int) = depth + 1 + (i : Int) by omega]; exact y
        · show Wp (D + 4) 0 0 M_X4_search 70 [some (.inr (.inr 59)), some (.inl m), some (.inl least), some (.inr (.inl s)), none, some (.inl depth), some (.inl size), some (.inl x)] [.inl 0] y2 _
          refine p_if_eq_t 75 rfl rfl (by decide) ?_
          refine p_iinc (y := x + 1) (ls' := [some (.inr (.inr 59)), some (.inl m), some (.inl least), some (.inr (.inl s)), none, some (.inl depth), some (.inl size), some (.inl (x + 1))]) 78 rfl rfl rfl (w32_id ⟨(by omega), (by omega)⟩) rfl ?_
          refine p_goto 34 rfl rfl ?_
          -- leaf 2: loop 34 [some (.inr (.inr 59)), some (.inl m), some (.inl least), some (.inr (.inl s)), none, some (.inl depth), some (.inl size), some (.inl (x + 1))] st=[] h=y2 
          obtain ⟨k2, o2, hn⟩ := p2
          have k1' : Keep c61 h1 y1 := by rw [e1]; exact (Keep.rf _ _).sv rfl _
          refine ihc (x + 1) _ (by omega) (by omega) S2 ((k1.trans k1').trans k2) (fun i hi => by rw [o2 i (by omega), e1, sv_nf (by omega)]; exact o i hi) ?_
          rw [ef]
          show (match fnd C m r (x + 1) (x :: T) with | some l => some (x :: l) | none => flF (fun s T => fnd C m r s T) T c (x + 1)) = _
          rw [hn]
    refine p_aload 1 rfl rfl rfl ?_
    refine p_lload 2 rfl rfl rfl ?_
    refine p_iload 3 rfl rfl rfl ?_
    refine p_iload 5 rfl rfl rfl ?_
    refine p_iload 7 rfl rfl rfl ?_
    refine p_isub (z := size - depth) 8 rfl rfl (w32_id ⟨(by omega), (by omega)⟩) ?_
    refine p_callv (le := [some (.inr (.inr 59)), some (.inr (.inl s)), none, some (.inl least), some (.inl (size - depth)), none, none, none, none, none, none, none]) (as := [.inr (.inr 59), .inr (.inl s), .inl least, .inl (size - depth)]) (rest := []) 11 0 0 0 0 rfl rfl (Nat.le_of_ble_eq_true rfl) rfl (Nat.le_of_ble_eq_true rfl) rfl rfl (Nat.le_of_ble_eq_true rfl) rfl (Nat.le_of_ble_eq_true rfl) rfl (Nat.le_refl _) (Nat.le_refl _) rfl rfl (tg_59 S) ?_
    refine x_canDo S s least (size - depth) X e.1 l0 l1 (fun c1 => ?_) (fun c1 => ?_)
    · show Wp (D + 4) 0 0 M_X4_search 11 [some (.inr (.inr 59)), some (.inl m), some (.inl least), some (.inr (.inl s)), none, some (.inl depth), some (.inl size), none] [.inl 1] h _
      refine p_if_ne_t 16 rfl rfl (by decide) ?_
      refine p_iload 18 rfl rfl rfl ?_
      refine p_iload 20 rfl rfl rfl ?_
      refine p_ic_ge 23 29 rfl rfl rfl (fun c2 => ?_) (fun c2 => ?_)
      · skip
        refine p_const 30 rfl rfl ?_
        refine p_zret rfl rfl (by decide) ?_
        -- leaf 1: answer [.inl 1] h=h 
        exfalso; omega
      · skip
        refine p_iload 25 rfl rfl rfl ?_
        refine p_const 26 rfl rfl ?_
        refine p_ic_lt 29 31 rfl rfl rfl (fun c3 => ?_) (fun c3 => ?_)
        · skip
          refine p_iload 32 rfl rfl rfl ?_
          refine p_istore (ls' := [some (.inr (.inr 59)), some (.inl m), some (.inl least), some (.inr (.inl s)), none, some (.inl depth), some (.inl size), some (.inl least)]) 34 rfl rfl (Nat.le_of_ble_eq_true rfl) rfl ?_
          -- leaf 2: loop 34 [some (.inr (.inr 59)), some (.inl m), some (.inl least), some (.inr (.inl s)), none, some (.inl depth), some (.inl size), some (.inl least)] st=[] h=h 
          exact J (m - least).toNat least h (by omega) (Nat.le_refl _) S (Keep.rf _ _) (fun _ _ => rfl) rfl
        · skip
          refine p_const 30 rfl rfl ?_
          refine p_zret rfl rfl (by decide) ?_
          -- leaf 3: answer [.inl 1] h=h 
          exfalso; omega
    · show Wp (D + 4) 0 0 M_X4_search 11 [some (.inr (.inr 59)), some (.inl m), some (.inl least), some (.inr (.inl s)), none, some (.inl depth), some (.inl size), none] [.inl 0] h _
      refine p_if_ne_f 14 rfl rfl (by decide) ?_
      refine p_const 15 rfl rfl ?_
      refine p_zret rfl rfl (by decide) ?_
      -- leaf 4: answer [.inl 0] h=h 
      refine K2 h ⟨Keep.rf _ _, fun _ _ => rfl, ?_⟩ S
      cases ef : fnd C m (r + 1) least T with
      | none => rfl
      | some l => exact absurd (by rw [e0]; exact canL_need X.2.2.1 e ef) c1

