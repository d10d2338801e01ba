/-! CUTS: the model's parts of a row of letters, and the rows of names it reads in them -/
def Wt (h : PH) (k s t z b c id : Int) : Prop := ∃ j, Us h k s t z c j ∧ (if b = 0 then j else fi h k j) = id
theorem Wt_1 (h : PH) (k s t z : Int) : Wt h k s t z 1 = Ws h k s t z := by
  funext c id; rfl
theorem Wt_0 (h : PH) (k s t z : Int) : Wt h k s t z 0 = Us h k s t z := by
  funext c id
  apply propext
  unfold Wt
  constructor
  · rintro ⟨j, a, b⟩; rw [if_pos rfl] at b; rw [← b]; exact a
  · intro a; exact ⟨id, a, if_pos rfl⟩
theorem Wt.in {h : PH} {k s t z b c id : Int} (w : Wt h k s t z b c id) (n40 : gv h 79 k ≤ 40) : 0 ≤ id ∧ id < 40 := by
  obtain ⟨j, ⟨j0, j1, _, _⟩, e⟩ := w
  have := fi_in j0 j1
  split at e <;> omega
theorem m_sensesOf {d : Nat} {h : PH} {q : PQ} (S : Shape h) (c b : Int) {k s t z : Int} (O : Open h k s t z) (k0 : 0 ≤ k) (k1 : k ≤ 200) (n0 : 0 ≤ gv h 79 k) (n40 : gv h 79 k ≤ 40) (tv01 : ∀ j, 0 ≤ j → j < gv h 79 k → tv h k s t z j = 0 ∨ tv h k s t z j = 1)
    (K : ∀ u, (b40 u ∧ ∀ id, 0 ≤ id → id < 40 → (bit u id = 1 ↔ Wt h k s t z b c id)) → q (some (.inr (.inl u))) h) :
    Wp (d + 1) 0 0 M_X12_sensesOf 0 [some (.inr (.inr 66)), some (.inl c), some (.inl b), none, none, none] [] h q := by
  obtain ⟨ob, oj⟩ := O
  have L : ∀ (c2 : Nat) (j u : Int), j + c2 = gv h 79 k → 0 ≤ j → b40 u → (∀ id, 0 ≤ id → id < 40 → (bit u id = 1 ↔ ∃ i, i < j ∧ Us h k s t z c i ∧ (if b = 0 then i else fi h k i) = id)) → Wp (d + 1) 0 0 M_X12_sensesOf 5 [some (.inr (.inr 66)), some (.inl c), some (.inl b), some (.inr (.inl u)), none, some (.inl j)] [] h q := by
    intro c2
    induction c2 with
    | zero =>
      intro j u hj j0 bu u1
      refine p_iload 7 rfl rfl rfl ?_
      refine p_aload 8 rfl rfl rfl ?_
      refine p_getfr (j := 20) (z := 79) 11 rfl rfl rfl (tg_66 S) rfl (fi_66_20 S) ?_
      refine p_aload 12 rfl rfl rfl ?_
      refine p_getfi (j := 49) (z := k) 15 rfl rfl rfl (tg_66 S) rfl ob ?_
      refine p_iald (w := 201) (z := gv h 79 k) 16 rfl rfl (tg_79 S) (ln_79 S) (by omega) (by omega) rfl ?_
      refine p_ic_ge_t 75 rfl rfl (by omega) ?_
      refine p_lload 76 rfl rfl rfl ?_
      refine p_lret rfl rfl ?_
      -- leaf 1: answer [.inr (.inl u)] h=h 
      refine K u ⟨bu, fun id i0 i1 => (u1 id i0 i1).trans ⟨fun ⟨i, _, y⟩ => ⟨i, y⟩, fun ⟨i, y⟩ => ⟨i, by have := y.1.2.1; omega, y⟩⟩⟩
    | succ c2 ih =>
      intro j u hj j0 bu u1
      have o := oj j j0 (by omega)
      have tj := tv01 j j0 (by omega)
      have fin := fi_in (h := h) (k := k) j0 (by omega)
      have ecd : gv h 81 (40 * k + j) = cd h k j := rfl
      have skip : ¬ (Us h k s t z c j) → ∀ id, 0 ≤ id → id < 40 → (bit u id = 1 ↔ ∃ i, i < j + 1 ∧ Us h k s t z c i ∧ (if b = 0 then i else fi h k i) = id) := fun n id i0 i1 => (u1 id i0 i1).trans ⟨fun ⟨i, a, y⟩ => ⟨i, by omega, y⟩, fun ⟨i, a, y⟩ => ⟨i, by
        by_cases e : i = j
        · rw [e] at y; exact absurd y.1 n
        · omega, y⟩⟩
      have put : ∀ x, Us h k s t z c j → x = (if b = 0 then j else fi h k j) → b40 (or64 u (w64 (1 * 2 ^ x.toNat))) ∧ ∀ id, 0 ≤ id → id < 40 → (bit (or64 u (w64 (1 * 2 ^ x.toNat))) id = 1 ↔ ∃ i, i < j + 1 ∧ Us h k s t z c i ∧ (if b = 0 then i else fi h k i) = id) := by
        intro x us hx
        have x01 : 0 ≤ x ∧ x ≤ 39 := by rw [hx]; split <;> omega
        refine ⟨or_in64 bu x01.2, fun id i0 i1 => ?_⟩
        rw [or_bit64 bu x01.1 x01.2 i0]
        by_cases e : id = x
        · rw [if_pos e]; exact ⟨fun _ => ⟨j, by omega, us, by rw [e, hx]⟩, fun _ => rfl⟩
        · rw [if_neg e, u1 id i0 i1]
          exact ⟨fun ⟨i, a, y⟩ => ⟨i, by omega, y⟩, fun ⟨i, a, y⟩ => ⟨i, by
            by_cases e2 : i = j
            · rw [e2, ← hx] at y; exact absurd y.2.symm e
            · omega, y⟩⟩
      refine p_iload 7 rfl rfl rfl ?_
      refine p_aload 8 rfl rfl rfl ?_
      refine p_getfr (j := 20) (z := 79) 11 rfl rfl rfl (tg_66 S) rfl (fi_66_20 S) ?_
      refine p_aload 12 rfl rfl rfl ?_
      refine p_getfi (j := 49) (z := k) 15 rfl rfl rfl (tg_66 S) rfl ob ?_
      refine p_iald (w := 201) (z := gv h 79 k) 16 rfl rfl (tg_79 S) (ln_79 S) (by omega) (by omega) rfl ?_
      refine p_ic_ge_f 19 rfl rfl (by omega) ?_
      refine p_aload 20 rfl rfl rfl ?_
      refine p_getfr (j := 50) (z := 100) 23 rfl rfl rfl (tg_66 S) rfl (fi_66_50 S) ?_
      refine p_iload 25 rfl rfl rfl ?_
      refine p_bald (w := 40) (z := gv h 100 j) 26 rfl rfl (Or.inr (tg_100 S)) (ln_100 S) (by omega) (by omega) rfl ?_
      refine p_if_eq 29 69 rfl rfl rfl (fun c1 => ?_) (fun c1 => ?_)
      · skip
        refine p_iinc (y := j + 1) (ls' := [some (.inr (.inr 66)), some (.inl c), some (.inl b), some (.inr (.inl u)), none, some (.inl (j + 1))]) 72 rfl rfl rfl (w32_id ⟨(by omega), (by omega)⟩) rfl ?_
        refine p_goto 5 rfl rfl ?_
        -- leaf 1: loop 5 [some (.inr (.inr 66)), some (.inl c), some (.inl b), some (.inr (.inl u)), none, some (.inl (j + 1))] st=[] h=h 
        exact ih (j + 1) u (by omega) (by omega) bu (skip (fun y => by have := y.2.2.1; omega))
      · skip
        refine p_aload 30 rfl rfl rfl ?_
        refine p_getfr (j := 22) (z := 81) 33 rfl rfl rfl (tg_66 S) rfl (fi_66_22 S) ?_
        refine p_const 35 rfl rfl ?_
        refine p_aload 36 rfl rfl rfl ?_
        refine p_getfi (j := 49) (z := k) 39 rfl rfl rfl (tg_66 S) rfl ob ?_
        refine p_imul (z := 40 * k) 40 rfl rfl (w32_id ⟨(by omega), (by omega)⟩) ?_
        refine p_iload 42 rfl rfl rfl ?_
        refine p_iadd (z := (40 * k) + j) 43 rfl rfl (w32_id ⟨(by omega), (by omega)⟩) ?_
        refine p_iald (w := 8040) (z := gv h 81 ((40 * k) + j)) 44 rfl rfl (tg_81 S) (ln_81 S) (by omega) (by omega) rfl ?_
        refine p_iload 45 rfl rfl rfl ?_
        refine p_ic_ne 48 69 rfl rfl rfl (fun c2 => ?_) (fun c2 => ?_)
        · skip
          refine p_iinc (y := j + 1) (ls' := [some (.inr (.inr 66)), some (.inl c), some (.inl b), some (.inr (.inl u)), none, some (.inl (j + 1))]) 72 rfl rfl rfl (w32_id ⟨(by omega), (by omega)⟩) rfl ?_
          refine p_goto 5 rfl rfl ?_
          -- leaf 2: loop 5 [some (.inr (.inr 66)), some (.inl c), some (.inl b), some (.inr (.inl u)), none, some (.inl (j + 1))] st=[] h=h 
          exact ih (j + 1) u (by omega) (by omega) bu (skip (fun y => by have := y.2.2.2; omega))
        · skip
          refine p_lload 49 rfl rfl rfl ?_
          refine p_lconst 50 rfl rfl ?_
          refine p_iload 51 rfl rfl rfl ?_
          refine p_if_eq 54 64 rfl rfl rfl (fun c3 => ?_) (fun c3 => ?_)
          · skip
            refine p_iload 66 rfl rfl rfl ?_
            refine p_lshl (z := w64 (1 * 2 ^ (j).toNat)) 67 rfl rfl (by omega) (by omega) rfl ?_
            refine p_lor (z := or64 u (w64 (1 * 2 ^ (j).toNat))) 68 rfl rfl rfl ?_
            refine p_lstore (ls' := [some (.inr (.inr 66)), some (.inl c), some (.inl b), some (.inr (.inl (or64 u (w64 (1 * 2 ^ (j).toNat))))), none, some (.inl j)]) 69 rfl rfl (Nat.le_of_ble_eq_true rfl) rfl ?_
            refine p_iinc (y := j + 1) (ls' := [some (.inr (.inr 66)), some (.inl c), some (.inl b), some (.inr (.inl (or64 u (w64 (1 * 2 ^ (j).toNat))))), none, some (.inl (j + 1))]) 72 rfl rfl rfl (w32_id ⟨(by omega), (by omega)⟩) rfl ?_
            refine p_goto 5 rfl rfl ?_
            -- leaf 3: loop 5 [some (.inr (.inr 66)), some (.inl c), some (.inl b), some (.inr (.inl (or64 u (w64 (1 * 2 ^ (j).toNat))))), none, some (.inl (j + 1))] st=[] h=h 
            obtain ⟨a1, a2⟩ := put j ⟨j0, by omega, by omega, by omega⟩ (by rw [if_pos c3])
            exact ih (j + 1) _ (by omega) (by omega) a1 a2
          · skip
            refine p_aload 55 rfl rfl rfl ?_
            refine p_getfr (j := 51) (z := 101) 58 rfl rfl rfl (tg_66 S) rfl (fi_66_51 S) ?_
            refine p_iload 60 rfl rfl rfl ?_
            refine p_iald (w := 40) (z := gv h 101 j) 61 rfl rfl (tg_101 S) (ln_101 S) (by omega) (by omega) rfl ?_
            refine p_goto 66 rfl rfl ?_
            refine p_lshl (z := w64 (1 * 2 ^ (gv h 101 j).toNat)) 67 rfl rfl (by omega) (by omega) rfl ?_
            refine p_lor (z := or64 u (w64 (1 * 2 ^ (gv h 101 j).toNat))) 68 rfl rfl rfl ?_
            refine p_lstore (ls' := [some (.inr (.inr 66)), some (.inl c), some (.inl b), some (.inr (.inl (or64 u (w64 (1 * 2 ^ (gv h 101 j).toNat))))), none, some (.inl j)]) 69 rfl rfl (Nat.le_of_ble_eq_true rfl) rfl ?_
            refine p_iinc (y := j + 1) (ls' := [some (.inr (.inr 66)), some (.inl c), some (.inl b), some (.inr (.inl (or64 u (w64 (1 * 2 ^ (gv h 101 j).toNat))))), none, some (.inl (j + 1))]) 72 rfl rfl rfl (w32_id ⟨(by omega), (by omega)⟩) rfl ?_
            refine p_goto 5 rfl rfl ?_
            -- leaf 4: loop 5 [some (.inr (.inr 66)), some (.inl c), some (.inl b), some (.inr (.inl (or64 u (w64 (1 * 2 ^ (gv h 101 j).toNat))))), none, some (.inl (j + 1))] st=[] h=h 
            obtain ⟨a1, a2⟩ := put (gv h 101 j) ⟨j0, by omega, by omega, by omega⟩ (by rw [if_neg c3]; exact o.2)
            exact ih (j + 1) _ (by omega) (by omega) a1 a2
  refine p_lconst 1 rfl rfl ?_
  refine p_lstore (ls' := [some (.inr (.inr 66)), some (.inl c), some (.inl b), some (.inr (.inl 0)), none, none]) 2 rfl rfl (Nat.le_of_ble_eq_true rfl) rfl ?_
  refine p_const 3 rfl rfl ?_
  refine p_istore (ls' := [some (.inr (.inr 66)), some (.inl c), some (.inl b), some (.inr (.inl 0)), none, some (.inl 0)]) 5 rfl rfl (Nat.le_of_ble_eq_true rfl) rfl ?_
  -- leaf 1: loop 5 [some (.inr (.inr 66)), some (.inl c), some (.inl b), some (.inr (.inl 0)), none, some (.inl 0)] st=[] h=h 
  exact L (gv h 79 k).toNat 0 0 (by omega) (by omega) ⟨by decide, by decide⟩ (fun id i0 i1 => by rw [bit_zero]; exact ⟨fun y => absurd y (by decide), fun ⟨i, a, y, _⟩ => by have := y.1; omega⟩)
/-- the parts of n letters, cut behind the letters that w tells; from letter k on, the part begun at fr -/
def cutl (w n : Int) : Nat → Int → Int → List (Int × Int)
  | 0, _, _ => []
  | c + 1, k, fr => if k = n - 1 ∨ bit w k = 1 then (fr, k + 1 - fr) :: cutl w n c (k + 1) (k + 1) else cutl w n c (k + 1) fr
abbrev CL (w v : Int) : List (Int × Int) := cutl w (rl v) (rl v).toNat 0 0
theorem cutl_len (w n : Int) : ∀ (c : Nat) (k fr : Int), (cutl w n c k fr).length ≤ c
  | 0, _, _ => Nat.zero_le _
  | c + 1, k, fr => by
    unfold cutl
    split
    · have := cutl_len w n c (k + 1) (k + 1); show (cutl w n c (k + 1) (k + 1)).length + 1 ≤ c + 1; omega
    · have := cutl_len w n c (k + 1) fr; omega
theorem CL_len (w v : Int) : (CL w v).length ≤ 4 := by
  have h : (CL w v).length ≤ (rl v).toNat := cutl_len w (rl v) (rl v).toNat 0 0
  have := rl_in v
  omega
def ctA (a i : Int) : Bool := decide ((a = 66 ∧ i = 56) ∨ a = 104)
theorem ctA_bkB : ∀ a i, bkB a i = false → ctA a i = false := fun a i => dw (by omega)
theorem ctA_mA : ∀ a i, mA a i = false → ctA a i = false := fun a i => dw (by omega)
/-- the parts l stand with their sets -/
def PM (h : PH) (T : Int → Int → Prop) (v : Int) (l : List (Int × Int)) : Prop := gv h 66 56 = l.length ∧ ∀ (i : Nat) e, l[i]? = some e → b40 (gv h 104 i) ∧ ∀ id, 0 ≤ id → id < 40 → (bit (gv h 104 i) id = 1 ↔ T (sub v (rl v) e.1 e.2) id)
theorem Open.kp {h h1 : PH} {k s t z : Int} {A : Int → Int → Bool} (O : Open h k s t z) (K : Keep A h h1) (hA : ∀ a i, bkB a i = false ∨ (a = 66 ∧ i = 49) ∨ a = 100 ∨ a = 101 → A a i = false) : Open h1 k s t z := by
  have K' : Keep bkB h h1 := K.wide (fun a i z => hA a i (Or.inl z))
  obtain ⟨o1, o2⟩ := O
  unfold Open
  rw [K.1 66 49 (hA _ _ (by omega)), K'.1 79 k rfl]
  refine ⟨o1, fun j j0 j1 => ?_⟩
  rw [K.1 100 j (hA _ _ (by omega)), K.1 101 j (hA _ _ (by omega)), tv_congr K', fi_congr K']
  exact o2 j j0 j1
theorem Wt_congr {h h' : PH} (K : Keep bkB h h') (k s t z b : Int) : Wt h' k s t z b = Wt h k s t z b := by
  funext c id
  apply propext
  unfold Wt
  constructor
  · rintro ⟨j, a, y⟩; exact ⟨j, (Us_congr K _ _ _ _ _ _).1 a, by rw [← fi_congr K]; exact y⟩
  · rintro ⟨j, a, y⟩; exact ⟨j, (Us_congr K _ _ _ _ _ _).2 a, by rw [fi_congr K]; exact y⟩
theorem ctA_open : ∀ a i, bkB a i = false ∨ (a = 66 ∧ i = 49) ∨ a = 100 ∨ a = 101 → ctA a i = false := fun a i z => decide_eq_false (fun y => by
  rcases z with z | z
  · exact of_decide_eq_false z (by omega)
  · omega)
def tvs (h : PH) (k s t z : Int) : Prop := ∀ j, 0 ≤ j → j < gv h 79 k → tv h k s t z j = 0 ∨ tv h k s t z j = 1
theorem tvs.kp {h h1 : PH} {k s t z : Int} (T : tvs h k s t z) (K : Keep bkB h h1) : tvs h1 k s t z := by
  unfold tvs
  rw [K.1 79 k rfl]
  intro j j0 j1
  rw [tv_congr K]
  exact T j j0 j1
/-- the cuts told by w: 1 with the sets of all parts, 0 where a part has none -/
def CutR (T : Int → Int → Prop) (v w : Int) (h' : PH) (r : Int) : Prop := (r = 1 ∧ PM h' T v (CL w v) ∧ ∀ e ∈ CL w v, ∃ id, T (sub v (rl v) e.1 e.2) id) ∨ (r = 0 ∧ ∃ e ∈ CL w v, ∀ id, ¬ T (sub v (rl v) e.1 e.2) id)
theorem p5n {m : Int} (m0 : 0 ≤ m) (m4 : m ≤ 4) : 1 ≤ (2 : Int) ^ (5 * m).toNat ∧ (2 : Int) ^ (5 * m).toNat ≤ 1048576 := by
  rcases (show m = 0 ∨ m = 1 ∨ m = 2 ∨ m = 3 ∨ m = 4 by omega) with rfl | rfl | rfl | rfl | rfl <;> decide
theorem p5u {m : Int} (m0 : 0 ≤ m) (m4 : m ≤ 3) : (2 : Int) ^ (5 * m).toNat * 32 = 2 ^ (5 * (m + 1)).toNat := by
  rcases (show m = 0 ∨ m = 1 ∨ m = 2 ∨ m = 3 by omega) with rfl | rfl | rfl | rfl <;> decide
theorem dv_in {v : Int} (v0 : 0 ≤ v) (v1 : v < 1048576) (n : Nat) : 0 ≤ v / 2 ^ n ∧ v / 2 ^ n < 1048576 := by
  have p : (0 : Int) < 2 ^ n := Int.pow_pos (by decide)
  exact ⟨Int.ediv_nonneg v0 (Int.le_of_lt p), Int.lt_of_le_of_lt (Int.ediv_le_self _ v0) v1⟩
theorem PM.push {h1 h2 : PH} {T : Int → Int → Prop} {v u : Int} {P : List (Int × Int)} {x : Int × Int} (pm : PM h1 T v P) (e1 : gv h2 66 56 = (P.length : Int) + 1) (e2 : gv h2 104 P.length = u) (e3 : ∀ i : Int, i ≠ P.length → gv h2 104 i = gv h1 104 i)
    (hu : b40 u ∧ ∀ id, 0 ≤ id → id < 40 → (bit u id = 1 ↔ T (sub v (rl v) x.1 x.2) id)) : PM h2 T v (P ++ [x]) := by
  obtain ⟨a, b⟩ := pm
  refine ⟨by rw [e1, List.length_append]; rfl, fun i e hi => ?_⟩
  by_cases z : i = P.length
  · rw [z, List.getElem?_append_right (Nat.le_refl _), Nat.sub_self] at hi
    have hi : x = e := Option.some.inj hi
    rw [z, e2, ← hi]
    exact hu
  · have jl := (List.getElem?_eq_some_iff.mp hi).1
    rw [List.length_append] at jl
    have jl : i < P.length + 1 := jl
    rw [List.getElem?_append_left (by omega)] at hi
    rw [e3 i (by omega)]
    exact b i e hi
theorem m_cuts {d : Nat} {h : PH} {q : PQ} (S : Shape h) (v w b : Int) {k s t z : Int} (g : letters v) (O : Open h k s t z) (k0 : 0 ≤ k) (k1 : k ≤ 200) (n0 : 0 ≤ gv h 79 k) (n40 : gv h 79 k ≤ 40) (tv01 : tvs h k s t z)
    (K : ∀ r h', (Keep ctA h h' ∧ CutR (Wt h k s t z b) v w h' r) → Shape h' → q (some (.inl r)) h') :
    Wp (d + 2) 0 0 M_X12_cuts 0 [some (.inr (.inr 66)), some (.inl v), some (.inl w), some (.inl b), none, none, none, none, none, none, none] [] h q := by
  have rb := rl_in v
  have vb := rl_pos g.1
  have hT : ∀ c id, Wt h k s t z b c id → 0 ≤ id ∧ id < 40 := fun c id y => y.in n40
  have stop : ∀ (e fr : Int) (w8 w9 w10 : Option PV) (h1 : PH), Shape h1 → Keep ctA h h1 → (∃ e ∈ CL w v, ∀ id, ¬ Wt h k s t z b (sub v (rl v) e.1 e.2) id) → Wp (d + 2) 0 0 M_X12_cuts 38 [some (.inr (.inr 66)), some (.inl v), some (.inl w), some (.inl b), some (.inl (rl v)), some (.inl fr), some (.inl 0), some (.inl e), w8, w9, w10] [] h1 q := by
    intro e fr w8 w9 w10 h1 S1 kp ex
    refine p_iload 40 rfl rfl rfl ?_
    refine p_iload 42 rfl rfl rfl ?_
    refine p_ic_ge 45 189 rfl rfl rfl (fun c1 => ?_) (fun c1 => ?_)
    · skip
      refine p_iload 191 rfl rfl rfl ?_
      refine p_zret rfl rfl (by decide) ?_
      -- leaf 1: answer [.inl 0] h=h1 
      exact K 0 h1 ⟨kp, Or.inr ⟨rfl, ex⟩⟩ S1
    · skip
      refine p_iload 47 rfl rfl rfl ?_
      refine p_if_eq_t 189 rfl rfl (by decide) ?_
      refine p_iload 191 rfl rfl rfl ?_
      refine p_zret rfl rfl (by decide) ?_
      -- leaf 2: answer [.inl 0] h=h1 
      exact K 0 h1 ⟨kp, Or.inr ⟨rfl, ex⟩⟩ S1
  have L : ∀ (c : Nat) (e fr : Int) (w8 w9 w10 : Option PV) (P : List (Int × Int)) (h1 : PH), e + c = rl v → 0 ≤ fr → fr ≤ e → (P.length : Int) ≤ fr → CL w v = P ++ cutl w (rl v) c e fr → Shape h1 → Keep ctA h h1 → PM h1 (Wt h k s t z b) v P → (∀ x ∈ P, ∃ id, Wt h k s t z b (sub v (rl v) x.1 x.2) id) →
      Wp (d + 2) 0 0 M_X12_cuts 38 [some (.inr (.inr 66)), some (.inl v), some (.inl w), some (.inl b), some (.inl (rl v)), some (.inl fr), some (.inl 1), some (.inl e), w8, w9, w10] [] h1 q := by
    intro c
    induction c with
    | zero =>
      intro e fr w8 w9 w10 P h1 he f0 fe pf hc S1 kp pm ne
      refine p_iload 40 rfl rfl rfl ?_
      refine p_iload 42 rfl rfl rfl ?_
      refine p_ic_ge_t 189 rfl rfl (by omega) ?_
      refine p_iload 191 rfl rfl rfl ?_
      refine p_zret rfl rfl (by decide) ?_
      -- leaf 1: answer [.inl 1] h=h1 
      have hc : CL w v = P := by rw [hc]; exact List.append_nil P
      exact K 1 h1 ⟨kp, Or.inl ⟨rfl, by rw [hc]; exact pm, by rw [hc]; exact ne⟩⟩ S1
    | succ c ih =>
      intro e fr w8 w9 w10 P h1 he f0 fe pf hc S1 kp pm ne
      have kB := kp.wide ctA_bkB
      have O1 := O.kp kp ctA_open
      have n1 : gv h1 79 k = gv h 79 k := kB.1 79 k rfl
      have T1 := Wt_congr kB k s t z b
      have tail : (e = rl v - 1 ∨ bit w e = 1) → ∀ (x10 : Option PV), Wp (d + 2) 0 0 M_X12_cuts 127 [some (.inr (.inr 66)), some (.inl v), some (.inl w), some (.inl b), some (.inl (rl v)), some (.inl fr), some (.inl 1), some (.inl e), some (.inl (v / 2 ^ (5 * (rl v - 1 - e)).toNat)), some (.inl (2 ^ (5 * (e + 1 - fr)).toNat)), x10] [] h1 q := by
        intro hcut x10
        have di := dv_in (v := v) (by omega) vb.2 (5 * (rl v - 1 - e)).toNat
        have pi := p5n (m := e + 1 - fr) (by omega) (by omega)
        have pm1 := pm.1
        have hs : sub v (rl v) fr (e + 1 - fr) = v / 2 ^ (5 * (rl v - 1 - e)).toNat % 2 ^ (5 * (e + 1 - fr)).toNat := by
          unfold sub; rw [show rl v - fr - (e + 1 - fr) = rl v - 1 - e by omega]
        have hc2 : CL w v = P ++ (fr, e + 1 - fr) :: cutl w (rl v) c (e + 1) (e + 1) := by
          rw [hc]; unfold cutl; rw [if_pos hcut]; cases c <;> rfl
        have hm : (fr, e + 1 - fr) ∈ CL w v := by rw [hc2]; exact List.mem_append_right _ List.mem_cons_self
        generalize v / 2 ^ (5 * (rl v - 1 - e)).toNat = xc at di hs
        generalize (2 : Int) ^ (5 * (e + 1 - fr)).toNat = xw at pi hs
        refine p_aload 128 rfl rfl rfl ?_
        refine p_getfr (j := 55) (z := 104) 131 rfl rfl rfl (tg_66 S1) rfl (fi_66_55 S1) ?_
        refine p_aload 132 rfl rfl rfl ?_
        refine p_getfi (j := 56) (z := (P.length : Int)) 135 rfl rfl rfl (tg_66 S1) rfl pm1 ?_
        refine p_aload 136 rfl rfl rfl ?_
        refine p_iload 138 rfl rfl rfl ?_
        refine p_iload 140 rfl rfl rfl ?_
        refine p_irem (z := xc % xw) 141 rfl rfl (by omega) (rm_id (by omega) (by omega)) ?_
        refine p_iload 142 rfl rfl rfl ?_
        refine p_callv (le := [some (.inr (.inr 66)), some (.inl (xc % xw)), some (.inl b), none, none, none]) (as := [.inr (.inr 66), .inl (xc % xw), .inl b]) (rest := [.inl (P.length : Int), .inr (.inr 104)]) 145 0 0 0 0 rfl rfl (Nat.le_of_ble_eq_true rfl) rfl (Nat.le_of_ble_eq_true rfl) rfl rfl (Nat.le_of_ble_eq_true rfl) rfl (Nat.le_of_ble_eq_true rfl) rfl (Nat.le_refl _) (Nat.le_refl _) rfl rfl (tg_66 S1) ?_
        refine m_sensesOf S1 (xc % xw) b O1 k0 k1 (by omega) (by omega) (tv01.kp kB) (fun r1 p1 => ?_)
        show Wp (d + 2) 0 0 M_X12_cuts 145 [some (.inr (.inr 66)), some (.inl v), some (.inl w), some (.inl b), some (.inl (rl v)), some (.inl fr), some (.inl 1), some (.inl e), some (.inl xc), some (.inl xw), x10] [.inr (.inl r1), .inl (P.length : Int), .inr (.inr 104)] h1 _
        refine p_last (w := 4) 146 rfl rfl (by decide) (tg_104 S1) (ln_104 S1) (by omega) (by omega) ?_
        refine p_nmh (fun y2 e2 => ?_)
        have S2 : Shape y2 := by rw [e2]; exact S1.svA fa_104 _ _
        refine p_aload 147 rfl rfl rfl ?_
        refine p_getfr (j := 55) (z := 104) 150 rfl rfl rfl (tg_66 S2) rfl (fi_66_55 S2) ?_
        refine p_aload 151 rfl rfl rfl ?_
        refine p_getfi (j := 56) (z := (P.length : Int)) 154 rfl rfl rfl (tg_66 S2) rfl (by rw [e2, sv_ne (by decide)]; exact pm1) ?_
        refine p_lald (w := 4) (z := r1) 155 rfl rfl (tg_104 S2) (ln_104 S2) (by omega) (by omega) (by rw [e2]; exact sv_eq _ _ _ _) ?_
        refine p_lconst 156 rfl rfl ?_
        refine p_lc_eq 157 160 164 rfl rfl rfl rfl rfl (fun c3 => ?_) (fun c3 => ?_)
        · skip
          refine p_const 165 rfl rfl ?_
          refine p_istore (ls' := [some (.inr (.inr 66)), some (.inl v), some (.inl w), some (.inl b), some (.inl (rl v)), some (.inl fr), some (.inl 0), some (.inl e), some (.inl xc), some (.inl xw), x10]) 167 rfl rfl (Nat.le_of_ble_eq_true rfl) rfl ?_
          refine p_aload 168 rfl rfl rfl ?_
          refine p_dup 169 rfl rfl nl_r ?_
          refine p_getfi (j := 56) (z := (P.length : Int)) 172 rfl rfl rfl (tg_66 S2) rfl (by rw [e2, sv_ne (by decide)]; exact pm1) ?_
          refine p_const 173 rfl rfl ?_
          refine p_iadd (z := (P.length : Int) + 1) 174 rfl rfl (w32_id ⟨(by omega), (by omega)⟩) ?_
          refine p_putfi (j := 56) 177 rfl rfl rfl (fun z => absurd z (by decide)) (tg_66 S2) rfl ?_
          refine p_nmh (fun y4 e4 => ?_)
          have S4 : Shape y4 := by rw [e4]; exact S2.svF ff_66_56 _
          refine p_iload 179 rfl rfl rfl ?_
          refine p_const 180 rfl rfl ?_
          refine p_iadd (z := e + 1) 181 rfl rfl (w32_id ⟨(by omega), (by omega)⟩) ?_
          refine p_istore (ls' := [some (.inr (.inr 66)), some (.inl v), some (.inl w), some (.inl b), some (.inl (rl v)), some (.inl (e + 1)), some (.inl 0), some (.inl e), some (.inl xc), some (.inl xw), x10]) 183 rfl rfl (Nat.le_of_ble_eq_true rfl) rfl ?_
          refine p_iinc (y := e + 1) (ls' := [some (.inr (.inr 66)), some (.inl v), some (.inl w), some (.inl b), some (.inl (rl v)), some (.inl (e + 1)), some (.inl 0), some (.inl (e + 1)), some (.inl xc), some (.inl xw), x10]) 186 rfl rfl rfl (w32_id ⟨(by omega), (by omega)⟩) rfl ?_
          refine p_goto 38 rfl rfl ?_
          -- leaf 1: loop 38 [some (.inr (.inr 66)), some (.inl v), some (.inl w), some (.inl b), some (.inl (rl v)), some (.inl (e + 1)), some (.inl 0), some (.inl (e + 1)), some (.inl xc), some (.inl xw), x10] st=[] h=y4 e4,e2
          rw [T1, ← hs] at p1
          refine stop _ _ _ _ _ _ S4 (by rw [e4, e2]; exact (kp.sv rfl _).sv rfl _) ⟨_, hm, fun id hid => ?_⟩
          have := (p1.2 id (hT _ _ hid).1 (hT _ _ hid).2).2 hid
          rw [c3, bit_zero] at this
          exact absurd this (by decide)
        · skip
          refine p_const 161 rfl rfl ?_
          refine p_goto 165 rfl rfl ?_
          refine p_istore (ls' := [some (.inr (.inr 66)), some (.inl v), some (.inl w), some (.inl b), some (.inl (rl v)), some (.inl fr), some (.inl 1), some (.inl e), some (.inl xc), some (.inl xw), x10]) 167 rfl rfl (Nat.le_of_ble_eq_true rfl) rfl ?_
          refine p_aload 168 rfl rfl rfl ?_
          refine p_dup 169 rfl rfl nl_r ?_
          refine p_getfi (j := 56) (z := (P.length : Int)) 172 rfl rfl rfl (tg_66 S2) rfl (by rw [e2, sv_ne (by decide)]; exact pm1) ?_
          refine p_const 173 rfl rfl ?_
          refine p_iadd (z := (P.length : Int) + 1) 174 rfl rfl (w32_id ⟨(by omega), (by omega)⟩) ?_
          refine p_putfi (j := 56) 177 rfl rfl rfl (fun z => absurd z (by decide)) (tg_66 S2) rfl ?_
          refine p_nmh (fun y5 e5 => ?_)
          have S5 : Shape y5 := by rw [e5]; exact S2.svF ff_66_56 _
          refine p_iload 179 rfl rfl rfl ?_
          refine p_const 180 rfl rfl ?_
          refine p_iadd (z := e + 1) 181 rfl rfl (w32_id ⟨(by omega), (by omega)⟩) ?_
          refine p_istore (ls' := [some (.inr (.inr 66)), some (.inl v), some (.inl w), some (.inl b), some (.inl (rl v)), some (.inl (e + 1)), some (.inl 1), some (.inl e), some (.inl xc), some (.inl xw), x10]) 183 rfl rfl (Nat.le_of_ble_eq_true rfl) rfl ?_
          refine p_iinc (y := e + 1) (ls' := [some (.inr (.inr 66)), some (.inl v), some (.inl w), some (.inl b), some (.inl (rl v)), some (.inl (e + 1)), some (.inl 1), some (.inl (e + 1)), some (.inl xc), some (.inl xw), x10]) 186 rfl rfl rfl (w32_id ⟨(by omega), (by omega)⟩) rfl ?_
          refine p_goto 38 rfl rfl ?_
          -- leaf 2: loop 38 [some (.inr (.inr 66)), some (.inl v), some (.inl w), some (.inl b), some (.inl (rl v)), some (.inl (e + 1)), some (.inl 1), some (.inl (e + 1)), some (.inl xc), some (.inl xw), x10] st=[] h=y5 e5,e2
          rw [T1, ← hs] at p1
          obtain ⟨x, x0, x1, hx⟩ := (b40_ne p1.1).1 c3
          refine ih (e + 1) (e + 1) _ _ _ (P ++ [(fr, e + 1 - fr)]) _ (by omega) (by omega) (by omega) (by rw [List.length_append]; show ((P.length + 1 : Nat) : Int) ≤ e + 1; omega) (by rw [hc2, List.append_assoc]; rfl) S5 (by rw [e5, e2]; exact (kp.sv rfl _).sv rfl _) (pm.push (u := r1) (by rw [e5, e2, sv_eq]) (by rw [e5, e2, sv_ne (by decide), sv_eq]) (fun i hi => by rw [e5, e2, sv_ne (by decide), sv_nf hi]) p1) (fun y hy => ?_)
          rcases List.mem_append.mp hy with y1 | y1
          · exact ne y y1
          · rw [List.mem_singleton.mp y1]; exact ⟨x, (p1.2 x x0 x1).1 hx⟩
      have l107 : (e = rl v - 1 ∨ bit w e = 1) → ∀ (c3 : Nat) (i xw : Int), i + c3 = e + 1 → fr ≤ i → xw = 2 ^ (5 * (i - fr)).toNat → Wp (d + 2) 0 0 M_X12_cuts 107 [some (.inr (.inr 66)), some (.inl v), some (.inl w), some (.inl b), some (.inl (rl v)), some (.inl fr), some (.inl 1), some (.inl e), some (.inl (v / 2 ^ (5 * (rl v - 1 - e)).toNat)), some (.inl xw), some (.inl i)] [] h1 q := by
        intro hcut c3
        induction c3 with
        | zero =>
          intro i xw hi fi hx
          have hi : i = e + 1 := by omega
          subst hi
          refine p_iload 109 rfl rfl rfl ?_
          refine p_iload 111 rfl rfl rfl ?_
          refine p_ic_gt_t 127 rfl rfl (by omega) ?_
          -- leaf 1: loop 127 [some (.inr (.inr 66)), some (.inl v), some (.inl w), some (.inl b), some (.inl (rl v)), some (.inl fr), some (.inl 1), some (.inl e), some (.inl (v / 2 ^ (5 * (rl v - 1 - e)).toNat)), some (.inl xw), some (.inl (e + 1))] st=[] h=h1 
          rw [hx]; exact tail hcut _
        | succ c3 ih3 =>
          intro i xw hi fi hx
          have px := p5n (m := i - fr) (by omega) (by omega)
          rw [← hx] at px
          refine p_iload 109 rfl rfl rfl ?_
          refine p_iload 111 rfl rfl rfl ?_
          refine p_ic_gt_f 114 rfl rfl (by omega) ?_
          refine p_iload 116 rfl rfl rfl ?_
          refine p_const 118 rfl rfl ?_
          refine p_imul (z := xw * 32) 119 rfl rfl (w32_id ⟨(by omega), (by omega)⟩) ?_
          refine p_istore (ls' := [some (.inr (.inr 66)), some (.inl v), some (.inl w), some (.inl b), some (.inl (rl v)), some (.inl fr), some (.inl 1), some (.inl e), some (.inl (v / 2 ^ (5 * (rl v - 1 - e)).toNat)), some (.inl (xw * 32)), some (.inl i)]) 121 rfl rfl (Nat.le_of_ble_eq_true rfl) rfl ?_
          refine p_iinc (y := i + 1) (ls' := [some (.inr (.inr 66)), some (.inl v), some (.inl w), some (.inl b), some (.inl (rl v)), some (.inl fr), some (.inl 1), some (.inl e), some (.inl (v / 2 ^ (5 * (rl v - 1 - e)).toNat)), some (.inl (xw * 32)), some (.inl (i + 1))]) 124 rfl rfl rfl (w32_id ⟨(by omega), (by omega)⟩) rfl ?_
          refine p_goto 107 rfl rfl ?_
          -- leaf 1: loop 107 [some (.inr (.inr 66)), some (.inl v), some (.inl w), some (.inl b), some (.inl (rl v)), some (.inl fr), some (.inl 1), some (.inl e), some (.inl (v / 2 ^ (5 * (rl v - 1 - e)).toNat)), some (.inl (xw * 32)), some (.inl (i + 1))] st=[] h=h1 
          exact ih3 (i + 1) _ (by omega) (by omega) (by rw [hx, show i + 1 - fr = i - fr + 1 by omega]; exact p5u (by omega) (by omega))
      have l80 : (e = rl v - 1 ∨ bit w e = 1) → ∀ (c3 : Nat) (i xc : Int) (x10 : Option PV), i = e + c3 → i < rl v → xc = v / 2 ^ (5 * (rl v - 1 - i)).toNat → Wp (d + 2) 0 0 M_X12_cuts 80 [some (.inr (.inr 66)), some (.inl v), some (.inl w), some (.inl b), some (.inl (rl v)), some (.inl fr), some (.inl 1), some (.inl e), some (.inl xc), some (.inl i), x10] [] h1 q := by
        intro hcut c3
        induction c3 with
        | zero =>
          intro i xc x10 hi il hx
          have hi : i = e := by omega
          subst hi
          refine p_iload 82 rfl rfl rfl ?_
          refine p_iload 84 rfl rfl rfl ?_
          refine p_ic_le_t 100 rfl rfl (by omega) ?_
          refine p_const 101 rfl rfl ?_
          refine p_istore (ls' := [some (.inr (.inr 66)), some (.inl v), some (.inl w), some (.inl b), some (.inl (rl v)), some (.inl fr), some (.inl 1), some (.inl i), some (.inl xc), some (.inl 1), x10]) 103 rfl rfl (Nat.le_of_ble_eq_true rfl) rfl ?_
          refine p_iload 105 rfl rfl rfl ?_
          refine p_istore (ls' := [some (.inr (.inr 66)), some (.inl v), some (.inl w), some (.inl b), some (.inl (rl v)), some (.inl fr), some (.inl 1), some (.inl i), some (.inl xc), some (.inl 1), some (.inl fr)]) 107 rfl rfl (Nat.le_of_ble_eq_true rfl) rfl ?_
          -- leaf 1: loop 107 [some (.inr (.inr 66)), some (.inl v), some (.inl w), some (.inl b), some (.inl (rl v)), some (.inl fr), some (.inl 1), some (.inl i), some (.inl xc), some (.inl 1), some (.inl fr)] st=[] h=h1 
          rw [hx]; exact l107 hcut (i + 1 - fr).toNat fr 1 (by omega) (by omega) (by rw [show fr - fr = 0 by omega]; rfl)
        | succ c3 ih3 =>
          intro i xc x10 hi il hx
          have di := dv_in (v := v) (by omega) vb.2 (5 * (rl v - 1 - i)).toNat
          rw [← hx] at di
          refine p_iload 82 rfl rfl rfl ?_
          refine p_iload 84 rfl rfl rfl ?_
          refine p_ic_le_f 87 rfl rfl (by omega) ?_
          refine p_iload 89 rfl rfl rfl ?_
          refine p_const 91 rfl rfl ?_
          refine p_idiv (z := xc / 32) 92 rfl rfl (by decide) (dv32_id (by omega) (by omega) (by omega)) ?_
          refine p_istore (ls' := [some (.inr (.inr 66)), some (.inl v), some (.inl w), some (.inl b), some (.inl (rl v)), some (.inl fr), some (.inl 1), some (.inl e), some (.inl (xc / 32)), some (.inl i), x10]) 94 rfl rfl (Nat.le_of_ble_eq_true rfl) rfl ?_
          refine p_iinc (y := i - 1) (ls' := [some (.inr (.inr 66)), some (.inl v), some (.inl w), some (.inl b), some (.inl (rl v)), some (.inl fr), some (.inl 1), some (.inl e), some (.inl (xc / 32)), some (.inl (i - 1)), x10]) 97 rfl rfl rfl (wsub_id ⟨(by omega), (by omega)⟩) rfl ?_
          refine p_goto 80 rfl rfl ?_
          -- leaf 1: loop 80 [some (.inr (.inr 66)), some (.inl v), some (.inl w), some (.inl b), some (.inl (rl v)), some (.inl fr), some (.inl 1), some (.inl e), some (.inl (xc / 32)), some (.inl (i - 1)), x10] st=[] h=h1 
          exact ih3 (i - 1) _ _ (by omega) (by omega) (by rw [hx, show rl v - 1 - (i - 1) = rl v - 1 - i + 1 by omega]; exact sh5 (by omega) (by omega))
      refine p_iload 40 rfl rfl rfl ?_
      refine p_iload 42 rfl rfl rfl ?_
      refine p_ic_ge_f 45 rfl rfl (by omega) ?_
      refine p_iload 47 rfl rfl rfl ?_
      refine p_if_eq_f 50 rfl rfl (by decide) ?_
      refine p_iload 52 rfl rfl rfl ?_
      refine p_iload 54 rfl rfl rfl ?_
      refine p_const 55 rfl rfl ?_
      refine p_isub (z := (rl v) - 1) 56 rfl rfl (w32_id ⟨(by omega), (by omega)⟩) ?_
      refine p_ic_ge 59 71 rfl rfl rfl (fun c1 => ?_) (fun c1 => ?_)
      · skip
        refine p_iload 72 rfl rfl rfl ?_
        refine p_istore (ls' := [some (.inr (.inr 66)), some (.inl v), some (.inl w), some (.inl b), some (.inl (rl v)), some (.inl fr), some (.inl 1), some (.inl e), some (.inl v), w9, w10]) 74 rfl rfl (Nat.le_of_ble_eq_true rfl) rfl ?_
        refine p_iload 76 rfl rfl rfl ?_
        refine p_const 77 rfl rfl ?_
        refine p_isub (z := (rl v) - 1) 78 rfl rfl (w32_id ⟨(by omega), (by omega)⟩) ?_
        refine p_istore (ls' := [some (.inr (.inr 66)), some (.inl v), some (.inl w), some (.inl b), some (.inl (rl v)), some (.inl fr), some (.inl 1), some (.inl e), some (.inl v), some (.inl ((rl v) - 1)), w10]) 80 rfl rfl (Nat.le_of_ble_eq_true rfl) rfl ?_
        -- leaf 1: loop 80 [some (.inr (.inr 66)), some (.inl v), some (.inl w), some (.inl b), some (.inl (rl v)), some (.inl fr), some (.inl 1), some (.inl e), some (.inl v), some (.inl ((rl v) - 1)), w10] st=[] h=h1 
        exact l80 (Or.inl (by omega)) (rl v - 1 - e).toNat _ v _ (by omega) (by omega) (by rw [show rl v - 1 - (rl v - 1) = 0 by omega]; show v = v / 1; omega)
      · skip
        refine p_iload 60 rfl rfl rfl ?_
        refine p_iload 62 rfl rfl rfl ?_
        refine p_ishr (z := w / 2 ^ (e).toNat) 63 rfl rfl (by omega) (by omega) rfl ?_
        refine p_const 64 rfl rfl ?_
        refine p_iand (z := (w / 2 ^ (e).toNat) % 2) 65 rfl rfl (mask32 1 rfl (by decide)) ?_
        refine p_if_ne 68 71 rfl rfl rfl (fun c2 => ?_) (fun c2 => ?_)
        · skip
          refine p_iload 72 rfl rfl rfl ?_
          refine p_istore (ls' := [some (.inr (.inr 66)), some (.inl v), some (.inl w), some (.inl b), some (.inl (rl v)), some (.inl fr), some (.inl 1), some (.inl e), some (.inl v), w9, w10]) 74 rfl rfl (Nat.le_of_ble_eq_true rfl) rfl ?_
          refine p_iload 76 rfl rfl rfl ?_
          refine p_const 77 rfl rfl ?_
          refine p_isub (z := (rl v) - 1) 78 rfl rfl (w32_id ⟨(by omega), (by omega)⟩) ?_
          refine p_istore (ls' := [some (.inr (.inr 66)), some (.inl v), some (.inl w), some (.inl b), some (.inl (rl v)), some (.inl fr), some (.inl 1), some (.inl e), some (.inl v), some (.inl ((rl v) - 1)), w10]) 80 rfl rfl (Nat.le_of_ble_eq_true rfl) rfl ?_
          -- leaf 2: loop 80 [some (.inr (.inr 66)), some (.inl v), some (.inl w), some (.inl b), some (.inl (rl v)), some (.inl fr), some (.inl 1), some (.inl e), some (.inl v), some (.inl ((rl v) - 1)), w10] st=[] h=h1 
          exact l80 (Or.inr (by have c2 : ¬ bit w e = 0 := c2; have := bit_in w e; omega)) (rl v - 1 - e).toNat _ v _ (by omega) (by omega) (by rw [show rl v - 1 - (rl v - 1) = 0 by omega]; show v = v / 1; omega)
        · skip
          refine p_goto 183 rfl rfl ?_
          refine p_iinc (y := e + 1) (ls' := [some (.inr (.inr 66)), some (.inl v), some (.inl w), some (.inl b), some (.inl (rl v)), some (.inl fr), some (.inl 1), some (.inl (e + 1)), w8, w9, w10]) 186 rfl rfl rfl (w32_id ⟨(by omega), (by omega)⟩) rfl ?_
          refine p_goto 38 rfl rfl ?_
          -- leaf 3: loop 38 [some (.inr (.inr 66)), some (.inl v), some (.inl w), some (.inl b), some (.inl (rl v)), some (.inl fr), some (.inl 1), some (.inl (e + 1)), w8, w9, w10] st=[] h=h1 
          have c2 : bit w e = 0 := c2
          refine ih (e + 1) fr _ _ _ P _ (by omega) f0 (by omega) pf ?_ S1 kp pm ne
          rw [hc]
          unfold cutl
          rw [if_neg (by omega)]
          cases c <;> rfl
  have Lc : ∀ (c : Nat) (m x : Int), rl x = c → 0 ≤ m → m + rl x = rl v → 0 ≤ x → x < 1048576 → Wp (d + 2) 0 0 M_X12_cuts 6 [some (.inr (.inr 66)), some (.inl v), some (.inl w), some (.inl b), some (.inl m), some (.inl x), none, none, none, none, none] [] h q := by
    intro c
    induction c with
    | zero =>
      intro m x hx m0 hm x0 x1
      have xz : x ≤ 0 := by apply Decidable.byContradiction; intro y; have := rl_up (v := x) (by omega) x1; have := rl_in (x / 32); omega
      have hm : m = rl v := by omega
      subst hm
      refine p_iload 8 rfl rfl rfl ?_
      refine p_if_le_t 24 rfl rfl (by omega) ?_
      refine p_aload 25 rfl rfl rfl ?_
      refine p_const 26 rfl rfl ?_
      refine p_putfi (j := 56) 29 rfl rfl rfl (fun z => absurd z (by decide)) (tg_66 S) rfl ?_
      refine p_nmh (fun y1 e1 => ?_)
      have S1 : Shape y1 := by rw [e1]; exact S.svF ff_66_56 _
      refine p_const 30 rfl rfl ?_
      refine p_istore (ls' := [some (.inr (.inr 66)), some (.inl v), some (.inl w), some (.inl b), some (.inl (rl v)), some (.inl 0), none, none, none, none, none]) 32 rfl rfl (Nat.le_of_ble_eq_true rfl) rfl ?_
      refine p_const 33 rfl rfl ?_
      refine p_istore (ls' := [some (.inr (.inr 66)), some (.inl v), some (.inl w), some (.inl b), some (.inl (rl v)), some (.inl 0), some (.inl 1), none, none, none, none]) 35 rfl rfl (Nat.le_of_ble_eq_true rfl) rfl ?_
      refine p_const 36 rfl rfl ?_
      refine p_istore (ls' := [some (.inr (.inr 66)), some (.inl v), some (.inl w), some (.inl b), some (.inl (rl v)), some (.inl 0), some (.inl 1), some (.inl 0), none, none, none]) 38 rfl rfl (Nat.le_of_ble_eq_true rfl) rfl ?_
      -- leaf 1: loop 38 [some (.inr (.inr 66)), some (.inl v), some (.inl w), some (.inl b), some (.inl (rl v)), some (.inl 0), some (.inl 1), some (.inl 0), none, none, none] st=[] h=y1 e1
      exact L (rl v).toNat 0 0 _ _ _ [] _ (by omega) (by omega) (by omega) (by decide) rfl S1 (by rw [e1]; exact (Keep.rf _ _).sv rfl _) ⟨by rw [e1, sv_eq]; rfl, fun i e hi => by cases hi⟩ (fun x hx => absurd hx List.not_mem_nil)
    | succ c ih =>
      intro m x hx m0 hm x0 x1
      have xp : 0 < x := by apply Decidable.byContradiction; intro y; have := rl_zero (v := x) (by omega); omega
      have xu := rl_up xp x1
      have xi := rl_in (x / 32)
      refine p_iload 8 rfl rfl rfl ?_
      refine p_if_le_f 11 rfl rfl (by omega) ?_
      refine p_iinc (y := m + 1) (ls' := [some (.inr (.inr 66)), some (.inl v), some (.inl w), some (.inl b), some (.inl (m + 1)), some (.inl x), none, none, none, none, none]) 14 rfl rfl rfl (w32_id ⟨(by omega), (by omega)⟩) rfl ?_
      refine p_iload 16 rfl rfl rfl ?_
      refine p_const 18 rfl rfl ?_
      refine p_idiv (z := x / 32) 19 rfl rfl (by decide) (dv32_id (by omega) (by omega) (by omega)) ?_
      refine p_istore (ls' := [some (.inr (.inr 66)), some (.inl v), some (.inl w), some (.inl b), some (.inl (m + 1)), some (.inl (x / 32)), none, none, none, none, none]) 21 rfl rfl (Nat.le_of_ble_eq_true rfl) rfl ?_
      refine p_goto 6 rfl rfl ?_
      -- leaf 1: loop 6 [some (.inr (.inr 66)), some (.inl v), some (.inl w), some (.inl b), some (.inl (m + 1)), some (.inl (x / 32)), none, none, none, none, none] st=[] h=h 
      exact ih _ _ (by omega) (by omega) (by omega) (by omega) (by omega)
  refine p_const 1 rfl rfl ?_
  refine p_istore (ls' := [some (.inr (.inr 66)), some (.inl v), some (.inl w), some (.inl b), some (.inl 0), none, none, none, none, none, none]) 3 rfl rfl (Nat.le_of_ble_eq_true rfl) rfl ?_
  refine p_iload 4 rfl rfl rfl ?_
  refine p_istore (ls' := [some (.inr (.inr 66)), some (.inl v), some (.inl w), some (.inl b), some (.inl 0), some (.inl v), none, none, none, none, none]) 6 rfl rfl (Nat.le_of_ble_eq_true rfl) rfl ?_
  -- leaf 1: loop 6 [some (.inr (.inr 66)), some (.inl v), some (.inl w), some (.inl b), some (.inl 0), some (.inl v), none, none, none, none, none] st=[] h=h 
  exact Lc (rl v).toNat 0 v (by omega) (by omega) (by omega) (by omega) vb.2
/-! ROWS, the model's side -/
def pad (l : List Int) (j : Nat) : Int := l.getD j 0
theorem pad_ext {l l' : List Int} (e : l.length = l'.length) (h4 : l.length ≤ 4) (p0 : pad l 0 = pad l' 0) (p1 : pad l 1 = pad l' 1) (p2 : pad l 2 = pad l' 2) (p3 : pad l 3 = pad l' 3) : l = l' := by
  match l, l', e, h4 with
  | [], [], _, _ => rfl
  | [a], [a'], _, _ => rw [show a = a' from p0]
  | [a, b], [a', b'], _, _ => rw [show a = a' from p0, show b = b' from p1]
  | [a, b, c], [a', b', c'], _, _ => rw [show a = a' from p0, show b = b' from p1, show c = c' from p2]
  | [a, b, c, e], [a', b', c', e'], _, _ => rw [show a = a' from p0, show b = b' from p1, show c = c' from p2, show e = e' from p3]
  | _ :: _ :: _ :: _ :: _ :: _, _, _, z => exact absurd z (by simp)
def adA (a i : Int) : Bool := decide ((a = 66 ∧ i = 52) ∨ a = 102 ∨ a = 103)
theorem adA_bkB : ∀ a i, bkB a i = false → adA a i = false := fun a i => dw (by omega)
theorem adA_mA : ∀ a i, mA a i = false → adA a i = false := fun a i => dw (by omega)
/-- the rows found are L, of at most lim -/
def RowsM (h : PH) (L : List (List Int)) (lim : Nat) : Prop := gv h 66 52 = L.length ∧ L.Nodup ∧ L.length ≤ lim ∧ lim ≤ 100 ∧ (∀ l ∈ L, okl l) ∧ ∀ (i : Nat) l, L[i]? = some l → gv h 102 i = l.length ∧ gv h 103 (4 * i) = pad l 0 ∧ gv h 103 (4 * i + 1) = pad l 1 ∧ gv h 103 (4 * i + 2) = pad l 2 ∧ gv h 103 (4 * i + 3) = pad l 3
theorem m_adds {d : Nat} {h : PH} {q : PQ} (S : Shape h) (a b c e : Int) {l : List Int} {L : List (List Int)} {lim : Nat} (ok : okl l) (hp : gv h 66 56 = l.length) (ha : pad l 0 = a) (hb : pad l 1 = b) (hc : pad l 2 = c) (he : pad l 3 = e) (R : RowsM h L lim) (lt : L.length < lim)
    (K : ∀ h', (Keep adA h h' ∧ ∃ L', RowsM h' L' lim ∧ Ext L L' lim (fun y => y = l)) → Shape h' → q none h') :
    Wp (d + 1) 0 0 M_X12_adds 0 [some (.inr (.inr 66)), some (.inl a), some (.inl b), some (.inl c), some (.inl e), none] [] h q := by
  have R0 := R
  obtain ⟨r1, r2, r3, r4, r5, r6⟩ := R
  have J : ∀ (n : Nat) (i : Nat), i + n = L.length → (∀ (j : Nat) y, j < i → L[j]? = some y → y ≠ l) → Wp (d + 1) 0 0 M_X12_adds 3 [some (.inr (.inr 66)), some (.inl a), some (.inl b), some (.inl c), some (.inl e), some (.inl i)] [] h q := by
    intro n
    induction n with
    | zero =>
      intro i hi n
      have nl : l ∉ L := fun z => by
        obtain ⟨j, hj⟩ := List.getElem?_of_mem z
        have := (List.getElem?_eq_some_iff.mp hj).1
        exact n j l (by omega) hj rfl
      refine p_iload 5 rfl rfl rfl ?_
      refine p_aload 6 rfl rfl rfl ?_
      refine p_getfi (j := 52) (z := (L.length : Int)) 9 rfl rfl rfl (tg_66 S) rfl r1 ?_
      refine p_ic_ge_t 92 rfl rfl (by omega) ?_
      refine p_aload 93 rfl rfl rfl ?_
      refine p_getfr (j := 53) (z := 102) 96 rfl rfl rfl (tg_66 S) rfl (fi_66_53 S) ?_
      refine p_aload 97 rfl rfl rfl ?_
      refine p_getfi (j := 52) (z := (L.length : Int)) 100 rfl rfl rfl (tg_66 S) rfl r1 ?_
      refine p_aload 101 rfl rfl rfl ?_
      refine p_getfi (j := 56) (z := (l.length : Int)) 104 rfl rfl rfl (tg_66 S) rfl hp ?_
      refine p_iast (w := 100) 105 rfl rfl (by decide) (tg_102 S) (ln_102 S) (by omega) (by omega) ?_
      refine p_nmh (fun y1 e1 => ?_)
      have S1 : Shape y1 := by rw [e1]; exact S.svA fa_102 _ _
      have kp1 : Keep adA h y1 := by rw [e1]; exact (Keep.rf adA _).sv rfl _
      refine p_aload 106 rfl rfl rfl ?_
      refine p_getfr (j := 54) (z := 103) 109 rfl rfl rfl (tg_66 S1) rfl (fi_66_54 S1) ?_
      refine p_const 110 rfl rfl ?_
      refine p_aload 111 rfl rfl rfl ?_
      refine p_getfi (j := 52) (z := (L.length : Int)) 114 rfl rfl rfl (tg_66 S1) rfl (by rw [e1, sv_ne (by decide)]; exact r1) ?_
      refine p_imul (z := 4 * (L.length : Int)) 115 rfl rfl (w32_id ⟨(by omega), (by omega)⟩) ?_
      refine p_iload 116 rfl rfl rfl ?_
      refine p_iast (w := 400) 117 rfl rfl (by decide) (tg_103 S1) (ln_103 S1) (by omega) (by omega) ?_
      refine p_nmh (fun y2 e2 => ?_)
      have S2 : Shape y2 := by rw [e2]; exact S1.svA fa_103 _ _
      have kp2 : Keep adA h y2 := by rw [e2]; exact kp1.sv rfl _
      refine p_aload 118 rfl rfl rfl ?_
      refine p_getfr (j := 54) (z := 103) 121 rfl rfl rfl (tg_66 S2) rfl (fi_66_54 S2) ?_
      refine p_const 122 rfl rfl ?_
      refine p_aload 123 rfl rfl rfl ?_
      refine p_getfi (j := 52) (z := (L.length : Int)) 126 rfl rfl rfl (tg_66 S2) rfl (by rw [e2, sv_ne (by decide)]; rw [e1, sv_ne (by decide)]; exact r1) ?_
      refine p_imul (z := 4 * (L.length : Int)) 127 rfl rfl (w32_id ⟨(by omega), (by omega)⟩) ?_
      refine p_const 128 rfl rfl ?_
      refine p_iadd (z := (4 * (L.length : Int)) + 1) 129 rfl rfl (w32_id ⟨(by omega), (by omega)⟩) ?_
      refine p_iload 130 rfl rfl rfl ?_
      refine p_iast (w := 400) 131 rfl rfl (by decide) (tg_103 S2) (ln_103 S2) (by omega) (by omega) ?_
      refine p_nmh (fun y3 e3 => ?_)
      have S3 : Shape y3 := by rw [e3]; exact S2.svA fa_103 _ _
      have kp3 : Keep adA h y3 := by rw [e3]; exact kp2.sv rfl _
      refine p_aload 132 rfl rfl rfl ?_
      refine p_getfr (j := 54) (z := 103) 135 rfl rfl rfl (tg_66 S3) rfl (fi_66_54 S3) ?_
      refine p_const 136 rfl rfl ?_
      refine p_aload 137 rfl rfl rfl ?_
      refine p_getfi (j := 52) (z := (L.length : Int)) 140 rfl rfl rfl (tg_66 S3) rfl (by rw [e3, sv_ne (by decide)]; rw [e2, sv_ne (by decide)]; rw [e1, sv_ne (by decide)]; exact r1) ?_
      refine p_imul (z := 4 * (L.length : Int)) 141 rfl rfl (w32_id ⟨(by omega), (by omega)⟩) ?_
      refine p_const 142 rfl rfl ?_
      refine p_iadd (z := (4 * (L.length : Int)) + 2) 143 rfl rfl (w32_id ⟨(by omega), (by omega)⟩) ?_
      refine p_iload 144 rfl rfl rfl ?_
      refine p_iast (w := 400) 145 rfl rfl (by decide) (tg_103 S3) (ln_103 S3) (by omega) (by omega) ?_
      refine p_nmh (fun y4 e4 => ?_)
      have S4 : Shape y4 := by rw [e4]; exact S3.svA fa_103 _ _
      have kp4 : Keep adA h y4 := by rw [e4]; exact kp3.sv rfl _
      refine p_aload 146 rfl rfl rfl ?_
      refine p_getfr (j := 54) (z := 103) 149 rfl rfl rfl (tg_66 S4) rfl (fi_66_54 S4) ?_
      refine p_const 150 rfl rfl ?_
      refine p_aload 151 rfl rfl rfl ?_
      refine p_getfi (j := 52) (z := (L.length : Int)) 154 rfl rfl rfl (tg_66 S4) rfl (by rw [e4, sv_ne (by decide)]; rw [e3, sv_ne (by decide)]; rw [e2, sv_ne (by decide)]; rw [e1, sv_ne (by decide)]; exact r1) ?_
      refine p_imul (z := 4 * (L.length : Int)) 155 rfl rfl (w32_id ⟨(by omega), (by omega)⟩) ?_
      refine p_const 156 rfl rfl ?_
      refine p_iadd (z := (4 * (L.length : Int)) + 3) 157 rfl rfl (w32_id ⟨(by omega), (by omega)⟩) ?_
      refine p_iload 159 rfl rfl rfl ?_
      refine p_iast (w := 400) 160 rfl rfl (by decide) (tg_103 S4) (ln_103 S4) (by omega) (by omega) ?_
      refine p_nmh (fun y5 e5 => ?_)
      have S5 : Shape y5 := by rw [e5]; exact S4.svA fa_103 _ _
      have kp5 : Keep adA h y5 := by rw [e5]; exact kp4.sv rfl _
      refine p_aload 161 rfl rfl rfl ?_
      refine p_dup 162 rfl rfl nl_r ?_
      refine p_getfi (j := 52) (z := (L.length : Int)) 165 rfl rfl rfl (tg_66 S5) rfl (by rw [e5, sv_ne (by decide)]; rw [e4, sv_ne (by decide)]; rw [e3, sv_ne (by decide)]; rw [e2, sv_ne (by decide)]; rw [e1, sv_ne (by decide)]; exact r1) ?_
      refine p_const 166 rfl rfl ?_
      refine p_iadd (z := (L.length : Int) + 1) 167 rfl rfl (w32_id ⟨(by omega), (by omega)⟩) ?_
      refine p_putfi (j := 52) 170 rfl rfl rfl (fun z => absurd z (by decide)) (tg_66 S5) rfl ?_
      refine p_nmh (fun y6 e6 => ?_)
      have S6 : Shape y6 := by rw [e6]; exact S5.svF ff_66_52 _
      have kp6 : Keep adA h y6 := by rw [e6]; exact kp5.sv rfl _
      refine p_ret rfl rfl ?_
      -- leaf 1: answer [] h=y6 e6,e5,e4,e3,e2,e1 kp6
      have ex := Ext.one r2 lt nl
      refine K _ ⟨kp6, L ++ [l], ⟨by rw [e6, e5, e4, e3, e2, e1, sv_eq, List.length_append]; rfl, ex.1, ex.2.1, r4, ?_, ?_⟩, ex⟩ S6
      · intro y hy
        rcases List.mem_append.mp hy with z | z
        · exact r5 y z
        · rw [List.mem_singleton.mp z]; exact ok
      · intro j y hy
        by_cases z : j = L.length
        · rw [z, List.getElem?_append_right (Nat.le_refl _), Nat.sub_self] at hy
          have hy : l = y := Option.some.inj hy
          rw [z, ← hy, e6, e5, e4, e3, e2, e1]
          refine ⟨?_, ?_, ?_, ?_, ?_⟩
          · rw [sv_ne (by decide), sv_ne (by decide), sv_ne (by decide), sv_ne (by decide), sv_ne (by decide), sv_eq]
          · rw [sv_ne (by decide), sv_nf (by omega), sv_nf (by omega), sv_nf (by omega), sv_eq, ha]
          · rw [sv_ne (by decide), sv_nf (by omega), sv_nf (by omega), sv_eq, hb]
          · rw [sv_ne (by decide), sv_nf (by omega), sv_eq, hc]
          · rw [sv_ne (by decide), sv_eq, he]
        · have jl := (List.getElem?_eq_some_iff.mp hy).1
          rw [List.length_append] at jl
          have jl : j < L.length + 1 := jl
          rw [List.getElem?_append_left (by omega)] at hy
          have g := r6 j y hy
          rw [e6, e5, e4, e3, e2, e1]
          refine ⟨?_, ?_, ?_, ?_, ?_⟩
          · rw [sv_ne (by decide), sv_ne (by decide), sv_ne (by decide), sv_ne (by decide), sv_ne (by decide), sv_nf (by omega)]; exact g.1
          · rw [sv_ne (by decide), sv_nf (by omega), sv_nf (by omega), sv_nf (by omega), sv_nf (by omega), sv_ne (by decide)]; exact g.2.1
          · rw [sv_ne (by decide), sv_nf (by omega), sv_nf (by omega), sv_nf (by omega), sv_nf (by omega), sv_ne (by decide)]; exact g.2.2.1
          · rw [sv_ne (by decide), sv_nf (by omega), sv_nf (by omega), sv_nf (by omega), sv_nf (by omega), sv_ne (by decide)]; exact g.2.2.2.1
          · rw [sv_ne (by decide), sv_nf (by omega), sv_nf (by omega), sv_nf (by omega), sv_nf (by omega), sv_ne (by decide)]; exact g.2.2.2.2
    | succ n ih =>
      intro i hi n
      have il : i < L.length := by omega
      have hy := List.getElem?_eq_getElem il
      have g := r6 i _ hy
      have nx : L[i] ≠ l → ∀ (j : Nat) y, j < i + 1 → L[j]? = some y → y ≠ l := fun ne j y hj hjy => by
        by_cases z : j = i
        · rw [z, hy] at hjy; rw [← Option.some.inj hjy]; exact ne
        · exact n j y (by omega) hjy
      have ng : ¬ (L[i].length = l.length ∧ pad L[i] 0 = a ∧ pad L[i] 1 = b ∧ pad L[i] 2 = c ∧ pad L[i] 3 = e) → L[i] ≠ l := fun w z => w ⟨by rw [z], by rw [z, ha], by rw [z, hb], by rw [z, hc], by rw [z, he]⟩
      refine p_iload 5 rfl rfl rfl ?_
      refine p_aload 6 rfl rfl rfl ?_
      refine p_getfi (j := 52) (z := (L.length : Int)) 9 rfl rfl rfl (tg_66 S) rfl r1 ?_
      refine p_ic_ge_f 12 rfl rfl (by omega) ?_
      refine p_aload 13 rfl rfl rfl ?_
      refine p_getfr (j := 53) (z := 102) 16 rfl rfl rfl (tg_66 S) rfl (fi_66_53 S) ?_
      refine p_iload 18 rfl rfl rfl ?_
      refine p_iald (w := 100) (z := gv h 102 i) 19 rfl rfl (tg_102 S) (ln_102 S) (by omega) (by omega) rfl ?_
      refine p_aload 20 rfl rfl rfl ?_
      refine p_getfi (j := 56) (z := (l.length : Int)) 23 rfl rfl rfl (tg_66 S) rfl hp ?_
      refine p_ic_ne 26 86 rfl rfl rfl (fun c1 => ?_) (fun c1 => ?_)
      · skip
        refine p_iinc (y := i + 1) (ls' := [some (.inr (.inr 66)), some (.inl a), some (.inl b), some (.inl c), some (.inl e), some (.inl (i + 1))]) 89 rfl rfl rfl (w32_id ⟨(by omega), (by omega)⟩) rfl ?_
        refine p_goto 3 rfl rfl ?_
        -- leaf 1: loop 3 [some (.inr (.inr 66)), some (.inl a), some (.inl b), some (.inl c), some (.inl e), some (.inl (i + 1))] st=[] h=h 
        exact ih (i + 1) (by omega) (nx (ng (fun w => by omega)))
      · skip
        refine p_aload 27 rfl rfl rfl ?_
        refine p_getfr (j := 54) (z := 103) 30 rfl rfl rfl (tg_66 S) rfl (fi_66_54 S) ?_
        refine p_const 31 rfl rfl ?_
        refine p_iload 33 rfl rfl rfl ?_
        refine p_imul (z := 4 * i) 34 rfl rfl (w32_id ⟨(by omega), (by omega)⟩) ?_
        refine p_iald (w := 400) (z := gv h 103 (4 * i)) 35 rfl rfl (tg_103 S) (ln_103 S) (by omega) (by omega) rfl ?_
        refine p_iload 36 rfl rfl rfl ?_
        refine p_ic_ne 39 86 rfl rfl rfl (fun c2 => ?_) (fun c2 => ?_)
        · skip
          refine p_iinc (y := i + 1) (ls' := [some (.inr (.inr 66)), some (.inl a), some (.inl b), some (.inl c), some (.inl e), some (.inl (i + 1))]) 89 rfl rfl rfl (w32_id ⟨(by omega), (by omega)⟩) rfl ?_
          refine p_goto 3 rfl rfl ?_
          -- leaf 2: loop 3 [some (.inr (.inr 66)), some (.inl a), some (.inl b), some (.inl c), some (.inl e), some (.inl (i + 1))] st=[] h=h 
          exact ih (i + 1) (by omega) (nx (ng (fun w => by omega)))
        · skip
          refine p_aload 40 rfl rfl rfl ?_
          refine p_getfr (j := 54) (z := 103) 43 rfl rfl rfl (tg_66 S) rfl (fi_66_54 S) ?_
          refine p_const 44 rfl rfl ?_
          refine p_iload 46 rfl rfl rfl ?_
          refine p_imul (z := 4 * i) 47 rfl rfl (w32_id ⟨(by omega), (by omega)⟩) ?_
          refine p_const 48 rfl rfl ?_
          refine p_iadd (z := (4 * i) + 1) 49 rfl rfl (w32_id ⟨(by omega), (by omega)⟩) ?_
          refine p_iald (w := 400) (z := gv h 103 ((4 * i) + 1)) 50 rfl rfl (tg_103 S) (ln_103 S) (by omega) (by omega) rfl ?_
          refine p_iload 51 rfl rfl rfl ?_
          refine p_ic_ne 54 86 rfl rfl rfl (fun c3 => ?_) (fun c3 => ?_)
          · skip
            refine p_iinc (y := i + 1) (ls' := [some (.inr (.inr 66)), some (.inl a), some (.inl b), some (.inl c), some (.inl e), some (.inl (i + 1))]) 89 rfl rfl rfl (w32_id ⟨(by omega), (by omega)⟩) rfl ?_
            refine p_goto 3 rfl rfl ?_
            -- leaf 3: loop 3 [some (.inr (.inr 66)), some (.inl a), some (.inl b), some (.inl c), some (.inl e), some (.inl (i + 1))] st=[] h=h 
            exact ih (i + 1) (by omega) (nx (ng (fun w => by omega)))
          · skip
            refine p_aload 55 rfl rfl rfl ?_
            refine p_getfr (j := 54) (z := 103) 58 rfl rfl rfl (tg_66 S) rfl (fi_66_54 S) ?_
            refine p_const 59 rfl rfl ?_
            refine p_iload 61 rfl rfl rfl ?_
            refine p_imul (z := 4 * i) 62 rfl rfl (w32_id ⟨(by omega), (by omega)⟩) ?_
            refine p_const 63 rfl rfl ?_
            refine p_iadd (z := (4 * i) + 2) 64 rfl rfl (w32_id ⟨(by omega), (by omega)⟩) ?_
            refine p_iald (w := 400) (z := gv h 103 ((4 * i) + 2)) 65 rfl rfl (tg_103 S) (ln_103 S) (by omega) (by omega) rfl ?_
            refine p_iload 66 rfl rfl rfl ?_
            refine p_ic_ne 69 86 rfl rfl rfl (fun c4 => ?_) (fun c4 => ?_)
            · skip
              refine p_iinc (y := i + 1) (ls' := [some (.inr (.inr 66)), some (.inl a), some (.inl b), some (.inl c), some (.inl e), some (.inl (i + 1))]) 89 rfl rfl rfl (w32_id ⟨(by omega), (by omega)⟩) rfl ?_
              refine p_goto 3 rfl rfl ?_
              -- leaf 4: loop 3 [some (.inr (.inr 66)), some (.inl a), some (.inl b), some (.inl c), some (.inl e), some (.inl (i + 1))] st=[] h=h 
              exact ih (i + 1) (by omega) (nx (ng (fun w => by omega)))
            · skip
              refine p_aload 70 rfl rfl rfl ?_
              refine p_getfr (j := 54) (z := 103) 73 rfl rfl rfl (tg_66 S) rfl (fi_66_54 S) ?_
              refine p_const 74 rfl rfl ?_
              refine p_iload 76 rfl rfl rfl ?_
              refine p_imul (z := 4 * i) 77 rfl rfl (w32_id ⟨(by omega), (by omega)⟩) ?_
              refine p_const 78 rfl rfl ?_
              refine p_iadd (z := (4 * i) + 3) 79 rfl rfl (w32_id ⟨(by omega), (by omega)⟩) ?_
              refine p_iald (w := 400) (z := gv h 103 ((4 * i) + 3)) 80 rfl rfl (tg_103 S) (ln_103 S) (by omega) (by omega) rfl ?_
              refine p_iload 82 rfl rfl rfl ?_
              refine p_ic_ne 85 86 rfl rfl rfl (fun c5 => ?_) (fun c5 => ?_)
              · skip
                refine p_iinc (y := i + 1) (ls' := [some (.inr (.inr 66)), some (.inl a), some (.inl b), some (.inl c), some (.inl e), some (.inl (i + 1))]) 89 rfl rfl rfl (w32_id ⟨(by omega), (by omega)⟩) rfl ?_
                refine p_goto 3 rfl rfl ?_
                -- leaf 5: loop 3 [some (.inr (.inr 66)), some (.inl a), some (.inl b), some (.inl c), some (.inl e), some (.inl (i + 1))] st=[] h=h 
                exact ih (i + 1) (by omega) (nx (ng (fun w => by omega)))
              · skip
                refine p_ret rfl rfl ?_
                -- leaf 6: answer [] h=h 
                have eq : L[i] = l := pad_ext (by omega) (r5 _ (List.getElem_mem il)).1 (by omega) (by omega) (by omega) (by omega)
                exact K h ⟨Keep.rf _ _, L, R0, Ext.in r2 r3 (by rw [← eq]; exact List.getElem_mem il)⟩ S
  refine p_const 1 rfl rfl ?_
  refine p_istore (ls' := [some (.inr (.inr 66)), some (.inl a), some (.inl b), some (.inl c), some (.inl e), some (.inl 0)]) 3 rfl rfl (Nat.le_of_ble_eq_true rfl) rfl ?_
  -- leaf 1: loop 3 [some (.inr (.inr 66)), some (.inl a), some (.inl b), some (.inl c), some (.inl e), some (.inl 0)] st=[] h=h 
  exact J L.length 0 (by omega) (fun j y hj => by omega)

