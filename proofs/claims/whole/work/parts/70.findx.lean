/-! CHANGE, the class's side -/
theorem Mt_ex {T : Int → Int → Prop} {v : Int} : ∀ (P : List (Int × Int)), (∀ e ∈ P, ∃ id, T (sub v (rl v) e.1 e.2) id) → ∃ l, Mt T v P l ∧ l.length = P.length
  | [], _ => ⟨[], rfl, rfl⟩
  | e :: r, h => by
    obtain ⟨id, hi⟩ := h e List.mem_cons_self
    obtain ⟨l, m, n⟩ := Mt_ex r (fun x hx => h x (List.mem_cons_of_mem _ hx))
    exact ⟨id :: l, ⟨id, l, rfl, hi, m⟩, by rw [List.length_cons, List.length_cons, n]⟩
theorem bsN_b (P : Int → Prop) : b40 (bsN P) ∧ (bsN P ≠ 0 → ∃ j, P j) := by
  unfold bsN
  by_cases e : ∃ u, b40 u ∧ ∀ j, 0 ≤ j → j < 40 → (bit u j = 1 ↔ P j)
  · rw [dif_pos e]
    have s := Classical.choose_spec e
    refine ⟨s.1, fun n => ?_⟩
    obtain ⟨x, x0, x1, b⟩ := (b40_ne s.1).1 n
    exact ⟨x, (s.2 x x0 x1).1 b⟩
  · rw [dif_neg e]
    exact ⟨⟨by decide, by decide⟩, fun n => absurd rfl n⟩
theorem gat_len3 {h : PH} {k s t z v : Int} {lo : List Int} (g : letters v) (n40 : gv h 79 k ≤ 40) (o : only (Rd (Ws h k s t z) v) lo) : (gat (pfF h k s t z v) v (wy v).toNat 0).length ≤ 3 := by
  have b := rl_in v
  have gp := rl_pos g.1
  have g1 := g.1
  have val : ∀ w, 0 ≤ w → w < wy v → (∀ e ∈ CL w v, pfF h k s t z v e ≠ 0) → (CL w v).length = lo.length := fun w w0 w1 H => by
    obtain ⟨l, m, e⟩ := Mt_ex (T := Ws h k s t z) (v := v) (CL w v) (fun e he => by
      obtain ⟨j, hj⟩ := (bsN_b _).2 (H e he)
      exact ⟨fi h k j, j, hj, rfl⟩)
    have : l = lo := (o l).1 ((Rd_iff g l).2 ⟨w, ⟨w0, w1⟩, m⟩)
    rw [← this, e]
  have f : ∀ (w w' : Int) (c' c L : Nat), c' = c + 1 → w' = w + 1 → 0 ≤ w → w < wy v → (cutl w (rl v) (rl v).toNat 0 0).length = L → (gat (pfF h k s t z v) v c' w).length = (gat (pfF h k s t z v) v c w').length ∨ ((gat (pfF h k s t z v) v c' w).length = (gat (pfF h k s t z v) v c w').length + 1 ∧ L = lo.length) := fun w w' c' c L hc hw w0 w1 hL => by
    subst hc
    have gu : gat (pfF h k s t z v) v (c + 1) w = (if ∀ e ∈ CL w v, pfF h k s t z v e ≠ 0 then [pad4 ((CL w v).map (pfF h k s t z v))] else []) ++ gat (pfF h k s t z v) v c w' := by rw [hw]; rfl
    rw [gu]
    by_cases y : ∀ e ∈ CL w v, pfF h k s t z v e ≠ 0
    · rw [if_pos y]
      exact Or.inr ⟨by rw [List.length_append]; show 1 + _ = _; omega, by rw [← hL]; exact val w w0 w1 y⟩
    · rw [if_neg y]; exact Or.inl rfl
  have ra : rl v = if v < 32 then 1 else if v < 1024 then 2 else if v < 32768 then 3 else 4 := by
    unfold rl; (repeat' split) <;> omega
  have hz : ∀ w, (gat (pfF h k s t z v) v 0 w).length = 0 := fun _ => rfl
  by_cases c1 : v < 32
  · have r : rl v = 1 := by rw [ra, if_pos c1]
    have w1 : wy v = 1 := by unfold wy; rw [if_pos c1]
    rw [w1] at f ⊢
    rw [r] at f
    have f0 := f 0 1 1 0 1 rfl rfl (by decide) (by decide) (by decide)
    have z0 := hz 1
    show (gat (pfF h k s t z v) v 1 0).length ≤ 3
    omega
  · by_cases c2 : v < 1024
    · have r : rl v = 2 := by rw [ra, if_neg c1, if_pos c2]
      have w1 : wy v = 2 := by unfold wy; rw [if_neg c1, if_pos c2]
      rw [w1] at f ⊢
      rw [r] at f
      have f0 := f 0 1 2 1 1 rfl rfl (by decide) (by decide) (by decide)
      have f1 := f 1 2 1 0 2 rfl rfl (by decide) (by decide) (by decide)
      have z0 := hz 2
      show (gat (pfF h k s t z v) v 2 0).length ≤ 3
      omega
    · by_cases c3 : v < 32768
      · have r : rl v = 3 := by rw [ra, if_neg c1, if_neg c2, if_pos c3]
        have w1 : wy v = 4 := by unfold wy; rw [if_neg c1, if_neg c2, if_pos c3]
        rw [w1] at f ⊢
        rw [r] at f
        have f0 := f 0 1 4 3 1 rfl rfl (by decide) (by decide) (by decide)
        have f1 := f 1 2 3 2 2 rfl rfl (by decide) (by decide) (by decide)
        have f2 := f 2 3 2 1 2 rfl rfl (by decide) (by decide) (by decide)
        have f3 := f 3 4 1 0 3 rfl rfl (by decide) (by decide) (by decide)
        have z0 := hz 4
        show (gat (pfF h k s t z v) v 4 0).length ≤ 3
        omega
      · have r : rl v = 4 := by rw [ra, if_neg c1, if_neg c2, if_neg c3]
        have w1 : wy v = 8 := by unfold wy; rw [if_neg c1, if_neg c2, if_neg c3]
        rw [w1] at f ⊢
        rw [r] at f
        have f0 := f 0 1 8 7 1 rfl rfl (by decide) (by decide) (by decide)
        have f1 := f 1 2 7 6 2 rfl rfl (by decide) (by decide) (by decide)
        have f2 := f 2 3 6 5 2 rfl rfl (by decide) (by decide) (by decide)
        have f3 := f 3 4 5 4 3 rfl rfl (by decide) (by decide) (by decide)
        have f4 := f 4 5 4 3 2 rfl rfl (by decide) (by decide) (by decide)
        have f5 := f 5 6 3 2 3 rfl rfl (by decide) (by decide) (by decide)
        have f6 := f 6 7 2 1 3 rfl rfl (by decide) (by decide) (by decide)
        have f7 := f 7 8 1 0 4 rfl rfl (by decide) (by decide) (by decide)
        have z0 := hz 8
        show (gat (pfF h k s t z v) v 8 0).length ≤ 3
        omega
/-- the other side reads act k -/
def read2 (h : PH) (ko kh k : Int) : Prop := (k ≤ gv h 18 5 ∧ isFl h k (nw h)) ∧ UndR h ko kh (gv h 21 k) (gv h 22 k) (gv h 20 k) 2
noncomputable def gk (h : PH) (ko k : Int) : List P4 := gat (pfF h ko (gv h 21 k) (gv h 22 k) (zh h (gv h 22 k)) (told (gv h 20 k))) (told (gv h 20 k)) (wy (told (gv h 20 k))).toNat 0
/-- all cuts of the hoists that he reads, from act k on -/
noncomputable def tot (h : PH) (ko kh : Int) : Nat → Int → List P4
  | 0, _ => []
  | c + 1, k => @ite _ (read2 h ko kh k) (Classical.propDecidable _) (gk h ko k) [] ++ tot h ko kh c (k + 1)
theorem tot_yes {h : PH} {ko kh k : Int} {c : Nat} (r : read2 h ko kh k) : tot h ko kh (c + 1) k = gk h ko k ++ tot h ko kh c (k + 1) := by
  show @ite _ (read2 h ko kh k) (Classical.propDecidable _) (gk h ko k) [] ++ _ = _
  rw [if_pos r]
theorem tot_no {h : PH} {ko kh k : Int} {c : Nat} (r : ¬ read2 h ko kh k) : tot h ko kh (c + 1) k = tot h ko kh c (k + 1) := by
  show @ite _ (read2 h ko kh k) (Classical.propDecidable _) (gk h ko k) [] ++ _ = _
  rw [if_neg r]; rfl
theorem UndR.two {h : PH} {ko kh s t w : Int} (u : UndR h ko kh s t w 2) : ko ≠ 0 ∧ kh ≠ 0 ∧ ∃ lo, only (Rd (Ws h ko s t (zh h t)) (told w)) lo := by
  rcases u with ⟨_, e⟩ | ⟨a, b, lo, _, o, _, _⟩
  · exact absurd e (by decide)
  · exact ⟨a, b, lo, o⟩
theorem gk_len {h : PH} {ao ko kh k : Int} (A : AI h) (B : BkO h ao ko) (r : read2 h ko kh k) : (gk h ko k).length ≤ 3 := by
  obtain ⟨f, u⟩ := r
  obtain ⟨k0, _, lo, o⟩ := u.two
  obtain ⟨_, ho, _⟩ := A.fl f.1 f.2
  have R : BkR h ao ko := by rcases B with ⟨_, z⟩ | ⟨_, _, _, R⟩; exact absurd z k0; exact R
  exact gat_len3 (told_rl ho).1 R.2.1 o
/-- the fewest senses -/
def ChgR (C : List P4) (m r : Int) (l : List Int) : Prop := (∃ n : Nat, r = n ∧ n ≤ 4 ∧ fnd C m n 0 [] = some l ∧ ∀ i : Nat, i < n → fnd C m i 0 [] = none) ∨ (r = -1 ∧ ∀ i : Nat, i ≤ 4 → fnd C m i 0 [] = none)
def msz (h : PH) (ko : Int) : Int := if ko = 0 then 0 else gv h 79 ko
def fcA (a i : Int) : Bool := decide ((24 ≤ a ∧ a ≤ 37) ∨ (a = 59 ∧ (i = 3 ∨ i = 6)) ∨ (60 ≤ a ∧ a ≤ 62))
theorem xA_fcA : ∀ a i, fcA a i = false → xA a i = false := fun a i => dw (by omega)
theorem acA_fcA : ∀ a i, fcA a i = false → acA a i = false := fun a i => dw (by omega)
theorem c61_fcA : ∀ a i, fcA a i = false → c61 a i = false := fun a i => dw (by omega)
theorem fcA_b : ∀ a i, (128 : Int) ≤ a → fcA a i = false := fun a i h => decide_eq_false (by omega)
theorem fcA_bkB : ∀ a i, bkB a i = false → fcA a i = false := fun a i => dw (by omega)
theorem x_findChange {d : Nat} {h : PH} {q : PQ} (S : Shape h) (A : AI h) (F : FI h) (ao ah : Int) {ko kh : Int} (Bo : BkO h ao ko) (Bh : BkO h ah kh)
    (K : ∀ r h', (Keep fcA h h' ∧ ∃ l, ChgR (tot h ko kh (gv h 18 5).toNat 1) (msz h ko) r l ∧ ((r = -1 ∧ gv h' 59 6 = gv h 59 6 ∧ ∀ i, gv h' 62 i = gv h 62 i) ∨ (r ≠ -1 ∧ gv h' 59 6 = r ∧ ∀ (i : Nat) w, l[i]? = some w → gv h' 62 i = w))) → Shape h' → q (some (.inl r)) h') :
    Wp (d + 19) 0 0 M_X4_findChange 0 [some (.inr (.inr 59)), some (.inr (.inr ao)), some (.inr (.inr ah)), none, none] [] h q := by
  have A0 := A
  have c5 := A.1
  have m40 : 0 ≤ msz h ko ∧ msz h ko ≤ 40 := by
    unfold msz
    rcases Bo with ⟨_, z⟩ | ⟨z, _, _, R⟩
    · rw [if_pos z]; omega
    · rw [if_neg (by omega)]; exact ⟨R.1, R.2.1⟩
  have J77 : ∀ (c : Nat) (n : Nat) (y : Int) (h1 : PH), y = n → n + c = 5 → Shape h1 → Keep fcA h h1 → CXr h1 (tot h ko kh (gv h 18 5).toNat 1) → gv h1 59 6 = gv h 59 6 → (∀ i, gv h1 62 i = gv h 62 i) → (∀ i : Nat, i < n → fnd (tot h ko kh (gv h 18 5).toNat 1) (msz h ko) i 0 [] = none) →
      Wp (d + 19) 0 0 M_X4_findChange 77 [some (.inr (.inr 59)), some (.inr (.inr ao)), some (.inr (.inr ah)), some (.inl (msz h ko)), some (.inl y)] [] h1 q := by
    intro c
    induction c with
    | zero =>
      intro n y h1 hy hn S1 k1 Y o6 o62 al
      refine p_iload 79 rfl rfl rfl ?_
      refine p_const 80 rfl rfl ?_
      refine p_ic_gt_t 125 rfl rfl (by omega) ?_
      refine p_const 126 rfl rfl ?_
      refine p_iret rfl rfl ?_
      -- leaf 1: answer [.inl (-1)] h=h1 
      exact K (-1) h1 ⟨k1, [], Or.inr ⟨rfl, fun i hi => al i (by omega)⟩, Or.inl ⟨rfl, o6, o62⟩⟩ S1
    | succ c ih =>
      intro n y h1 hy hn S1 k1 Y o6 o62 al
      have hs := x_search (C := tot h ko kh (gv h 18 5).toNat 1) m40.1 m40.2 n (d + 15 - n)
      rw [show d + 15 - n + n + 3 = d + 18 by omega] at hs
      refine p_iload 79 rfl rfl rfl ?_
      refine p_const 80 rfl rfl ?_
      refine p_ic_gt_f 83 rfl rfl (by omega) ?_
      refine p_aload 84 rfl rfl rfl ?_
      refine p_iload 85 rfl rfl rfl ?_
      refine p_const 86 rfl rfl ?_
      refine p_lconst 87 rfl rfl ?_
      refine p_const 88 rfl rfl ?_
      refine p_iload 90 rfl rfl rfl ?_
      refine p_calls (le := [some (.inr (.inr 59)), some (.inl (msz h ko)), some (.inl 0), some (.inr (.inl 0)), none, some (.inl 0), some (.inl y), none]) (as := [.inr (.inr 59), .inl (msz h ko), .inl 0, .inr (.inl 0), .inl 0, .inl y]) (rest := []) 93 0 0 0 0 rfl rfl (Nat.le_of_ble_eq_true rfl) rfl (Nat.le_of_ble_eq_true rfl) rfl rfl (Nat.le_of_ble_eq_true rfl) rfl (Nat.le_of_ble_eq_true rfl) rfl (Nat.le_refl _) (Nat.le_refl _) rfl rfl ?_
      refine hs _ 0 0 0 y [] _ (by omega) (by omega) (by omega) (by omega) (by omega) S1 Y setL_nil (fun y1 p1 S1 => ?_) (fun y1 p1 S1 => ?_)
      · show Wp (d + 19) 0 0 M_X4_findChange 93 [some (.inr (.inr 59)), some (.inr (.inr ao)), some (.inr (.inr ah)), some (.inl (msz h ko)), some (.inl y)] [.inl 1] y1 _
        have kp1 : Keep fcA h y1 := k1.trans (p1.1.wide c61_fcA)
        refine p_if_eq_f 96 rfl rfl (by decide) ?_
        refine p_aload 97 rfl rfl rfl ?_
        refine p_getfr (j := 4) (z := 61) 100 rfl rfl rfl (tg_59 S1) rfl (fi_59_4 S1) ?_
        refine p_const 101 rfl rfl ?_
        refine p_aload 102 rfl rfl rfl ?_
        refine p_getfr (j := 5) (z := 62) 105 rfl rfl rfl (tg_59 S1) rfl (fi_59_5 S1) ?_
        refine p_const 106 rfl rfl ?_
        refine p_const 107 rfl rfl ?_
        refine p_copy (wa := 4) (wb := 4) 110 rfl rfl (by decide) (by decide) (tg_61 S1) (tg_62 S1) (ln_61 S1) (ln_62 S1) (by omega) (by omega) (by omega) (by omega) (by omega) (Nat.succ_pos _) (Nat.le_of_ble_eq_true rfl) ?_
        refine p_nmh (fun y2 e2 => ?_)
        have S2 : Shape y2 := by rw [e2]; exact S1.cp fa_62 _ _ _ _
        have kp2 : Keep fcA h y2 := by rw [e2]; exact kp1.cp (by intro i; rfl) _ _ _ _
        refine p_aload 111 rfl rfl rfl ?_
        refine p_iload 113 rfl rfl rfl ?_
        refine p_putfi (j := 6) 116 rfl rfl rfl (fun z => absurd z (by decide)) (tg_59 S2) rfl ?_
        refine p_nmh (fun y3 e3 => ?_)
        have S3 : Shape y3 := by rw [e3]; exact S2.svF ff_59_6 _
        have kp3 : Keep fcA h y3 := by rw [e3]; exact kp2.sv rfl _
        refine p_iload 118 rfl rfl rfl ?_
        refine p_iret rfl rfl ?_
        -- leaf 1: answer [.inl y] h=y3 e3 kp3
        obtain ⟨k1', _, l, hl, w1⟩ := p1
        have ll := (fnd_some hl).1
        refine K y _ ⟨kp3, l, Or.inl ⟨n, hy, by omega, hl, al⟩, Or.inr ⟨by omega, by rw [e3, sv_eq], fun i w hw => ?_⟩⟩ S3
        have li := get_lt hw
        rw [e3, sv_ne (by decide), e2]
        show (if (62 : Int) = 62 ∧ 0 ≤ (i : Int) ∧ (i : Int) < 0 + 4 then gv y1 61 (0 + ((i : Int) - 0)) else _) = w
        rw [if_pos ⟨rfl, by omega, by omega⟩, show (0 : Int) + ((i : Int) - 0) = 0 + (i : Int) by omega]
        exact w1 i w hw
      · show Wp (d + 19) 0 0 M_X4_findChange 93 [some (.inr (.inr 59)), some (.inr (.inr ao)), some (.inr (.inr ah)), some (.inl (msz h ko)), some (.inl y)] [.inl 0] y1 _
        have kp1 : Keep fcA h y1 := k1.trans (p1.1.wide c61_fcA)
        refine p_if_eq_t 119 rfl rfl (by decide) ?_
        refine p_iinc (y := y + 1) (ls' := [some (.inr (.inr 59)), some (.inr (.inr ao)), some (.inr (.inr ah)), some (.inl (msz h ko)), some (.inl (y + 1))]) 122 rfl rfl rfl (w32_id ⟨(by omega), (by omega)⟩) rfl ?_
        refine p_goto 77 rfl rfl ?_
        -- leaf 2: loop 77 [some (.inr (.inr 59)), some (.inr (.inr ao)), some (.inr (.inr ah)), some (.inl (msz h ko)), some (.inl (y + 1))] st=[] h=y1  kp1
        obtain ⟨k1', _, hn'⟩ := p1
        refine ih (n + 1) (y + 1) _ (by omega) (by omega) S1 kp1 (Y.kp (k1'.1 59 3 rfl) (fun i => k1'.1 60 i rfl)) ((k1'.1 59 6 rfl).trans o6) (fun i => (k1'.1 62 i rfl).trans (o62 i)) (fun i hi => ?_)
        by_cases z : i = n
        · rw [z]; exact hn'
        · exact al i (by omega)
  have J21 : ∀ (c : Nat) (k : Int) (D : List P4) (h1 : PH), k + c = gv h 18 5 + 1 → 1 ≤ k → tot h ko kh (gv h 18 5).toNat 1 = D ++ tot h ko kh c k → Shape h1 → Keep fcA h h1 → CXr h1 D → D.length ≤ 3 * (k - 1).toNat → gv h1 59 6 = gv h 59 6 → (∀ i, gv h1 62 i = gv h 62 i) →
      Wp (d + 19) 0 0 M_X4_findChange 21 [some (.inr (.inr 59)), some (.inr (.inr ao)), some (.inr (.inr ah)), some (.inl (msz h ko)), some (.inl k)] [] h1 q := by
    intro c
    induction c with
    | zero =>
      intro k D h1 hk k0 hD S1 k1 Y lD o6 o62
      rw [show tot h ko kh 0 k = [] from rfl, List.append_nil] at hD
      have e5 : gv h1 18 5 = gv h 18 5 := k1.1 18 5 rfl
      refine p_iload 23 rfl rfl rfl ?_
      refine p_aload 24 rfl rfl rfl ?_
      refine p_getfr (j := 0) (z := 18) 27 rfl rfl rfl (tg_59 S1) rfl (fi_59_0 S1) ?_
      refine p_getfi (j := 5) (z := (gv h 18 5)) 30 rfl rfl rfl (tg_18 S1) rfl e5 ?_
      refine p_ic_gt_t 74 rfl rfl (by omega) ?_
      refine p_const 75 rfl rfl ?_
      refine p_istore (ls' := [some (.inr (.inr 59)), some (.inr (.inr ao)), some (.inr (.inr ah)), some (.inl (msz h ko)), some (.inl 0)]) 77 rfl rfl (Nat.le_of_ble_eq_true rfl) rfl ?_
      -- leaf 1: loop 77 [some (.inr (.inr 59)), some (.inr (.inr ao)), some (.inr (.inr ah)), some (.inl (msz h ko)), some (.inl 0)] st=[] h=h1 
      exact J77 5 0 0 h1 rfl rfl S1 k1 (by rw [hD]; exact Y) o6 o62 (fun i hi => by omega)
    | succ c ih =>
      intro k D h1 hk k0 hD S1 k1 Y lD o6 o62
      have kB := k1.wide fcA_bkB
      have A1 := A.kp kB
      have e5 : gv h1 18 5 = gv h 18 5 := k1.1 18 5 rfl
      have enw : nw h1 = nw h := nw_congr kB
      have fl := A1.flown_iff k
      have nxt : ∀ (D' : List P4) (h' : PH), tot h ko kh (gv h 18 5).toNat 1 = D' ++ tot h ko kh c (k + 1) → Shape h' → Keep fcA h h' → CXr h' D' → D'.length ≤ D.length + 3 → gv h' 59 6 = gv h 59 6 → (∀ i, gv h' 62 i = gv h 62 i) → Wp (d + 19) 0 0 M_X4_findChange 68 [some (.inr (.inr 59)), some (.inr (.inr ao)), some (.inr (.inr ah)), some (.inl (msz h ko)), some (.inl k)] [] h' q := by
        intro D' h' e' S' k' Y' l' o6' o62'
        refine p_iinc (y := k + 1) (ls' := [some (.inr (.inr 59)), some (.inr (.inr ao)), some (.inr (.inr ah)), some (.inl (msz h ko)), some (.inl (k + 1))]) 71 rfl rfl rfl (w32_id ⟨(by omega), (by omega)⟩) rfl ?_
        refine p_goto 21 rfl rfl ?_
        -- leaf 1: loop 21 [some (.inr (.inr 59)), some (.inr (.inr ao)), some (.inr (.inr ah)), some (.inl (msz h ko)), some (.inl (k + 1))] st=[] h=h' 
        exact ih (k + 1) D' h' (by omega) (by omega) e' S' k' Y' (by omega) o6' o62'
      refine p_iload 23 rfl rfl rfl ?_
      refine p_aload 24 rfl rfl rfl ?_
      refine p_getfr (j := 0) (z := 18) 27 rfl rfl rfl (tg_59 S1) rfl (fi_59_0 S1) ?_
      refine p_getfi (j := 5) (z := (gv h 18 5)) 30 rfl rfl rfl (tg_18 S1) rfl e5 ?_
      refine p_ic_gt_f 33 rfl rfl (by omega) ?_
      refine p_aload 34 rfl rfl rfl ?_
      refine p_getfr (j := 0) (z := 18) 37 rfl rfl rfl (tg_59 S1) rfl (fi_59_0 S1) ?_
      refine p_iload 39 rfl rfl rfl ?_
      refine p_aload 40 rfl rfl rfl ?_
      refine p_getfr (j := 0) (z := 18) 43 rfl rfl rfl (tg_59 S1) rfl (fi_59_0 S1) ?_
      refine p_callv (le := [some (.inr (.inr 18))]) (as := [.inr (.inr 18)]) (rest := [.inl k, .inr (.inr 18)]) 46 0 0 0 0 rfl rfl (Nat.le_of_ble_eq_true rfl) rfl (Nat.le_of_ble_eq_true rfl) rfl rfl (Nat.le_of_ble_eq_true rfl) rfl (Nat.le_of_ble_eq_true rfl) rfl (Nat.le_refl _) (Nat.le_refl _) rfl rfl (tg_18 S1) ?_
      refine x_knownAt S1   ?_
      show Wp (d + 19) 0 0 M_X4_findChange 46 [some (.inr (.inr 59)), some (.inr (.inr ao)), some (.inr (.inr ah)), some (.inl (msz h ko)), some (.inl k)] [.inl (nw h1), .inl k, .inr (.inr 18)] h1 _
      refine p_callv (le := [some (.inr (.inr 18)), some (.inl k), some (.inl (nw h1))]) (as := [.inr (.inr 18), .inl k, .inl (nw h1)]) (rest := []) 49 0 0 0 0 rfl rfl (Nat.le_of_ble_eq_true rfl) rfl (Nat.le_of_ble_eq_true rfl) rfl rfl (Nat.le_of_ble_eq_true rfl) rfl (Nat.le_of_ble_eq_true rfl) rfl (Nat.le_refl _) (Nat.le_refl _) rfl rfl (tg_18 S1) ?_
      refine x_isFlownKnown S1 k (nw h1) (by omega) (fun c1 => ?_) (fun c1 => ?_)
      · show Wp (d + 19) 0 0 M_X4_findChange 49 [some (.inr (.inr 59)), some (.inr (.inr ao)), some (.inr (.inr ah)), some (.inl (msz h ko)), some (.inl k)] [.inl 1] h1 _
        have fk : k ≤ gv h 18 5 ∧ isFl h k (nw h) := by
          have y := fl.1 c1
          unfold isFl at y ⊢
          rw [enw, e5, kB.1 94 k rfl, kB.1 98 k rfl] at y; exact y
        refine p_if_eq_f 52 rfl rfl (by decide) ?_
        refine p_aload 53 rfl rfl rfl ?_
        refine p_iload 55 rfl rfl rfl ?_
        refine p_aload 56 rfl rfl rfl ?_
        refine p_aload 57 rfl rfl rfl ?_
        refine p_callv (le := [some (.inr (.inr 59)), some (.inl k), some (.inr (.inr ao)), some (.inr (.inr ah)), none, none]) (as := [.inr (.inr 59), .inl k, .inr (.inr ao), .inr (.inr ah)]) (rest := []) 60 0 0 0 0 rfl rfl (Nat.le_of_ble_eq_true rfl) rfl (Nat.le_of_ble_eq_true rfl) rfl rfl (Nat.le_of_ble_eq_true rfl) rfl (Nat.le_of_ble_eq_true rfl) rfl (Nat.le_refl _) (Nat.le_refl _) rfl rfl (tg_59 S1) ?_
        refine x_understands S1 k ao ah (Bo.kp kB) (Bh.kp kB) (F.kp kB) (A1.fl (fl.1 c1).1 (fl.1 c1).2) (k1.1 21 k rfl) (k1.1 22 k rfl) (k1.1 20 k rfl) (fun r2 y2 p2 S2 => ?_)
        have kp2 : Keep fcA h y2 := k1.trans (p2.1.wide xA_fcA)
        show Wp (d + 19) 0 0 M_X4_findChange 60 [some (.inr (.inr 59)), some (.inr (.inr ao)), some (.inr (.inr ah)), some (.inl (msz h ko)), some (.inl k)] [.inl r2] y2 _
        obtain ⟨k2', U2, sp2⟩ := p2
        rw [UndR_congr kB] at U2
        have Y2 : CXr y2 D := Y.kp (k2'.1 59 3 rfl) (fun i => k2'.1 60 i rfl)
        have f6 : gv y2 59 6 = gv h 59 6 := (k2'.1 59 6 rfl).trans o6
        have f62 : ∀ i, gv y2 62 i = gv h 62 i := fun i => (k2'.1 62 i rfl).trans (o62 i)
        refine p_const 61 rfl rfl ?_
        refine p_ic_ne 64 68 rfl rfl rfl (fun c3 => ?_) (fun c3 => ?_)
        · skip
          -- leaf 1: loop 68 [some (.inr (.inr 59)), some (.inr (.inr ao)), some (.inr (.inr ah)), some (.inl (msz h ko)), some (.inl k)] st=[] h=y2  kp2
          refine nxt D _ ?_ S2 kp2 Y2 (by omega) f6 f62
          rw [hD, tot_no (fun r => c3 (U2.same r.2))]
        · skip
          have r2e : r2 = 2 := by omega
          have rd : read2 h ko kh k := ⟨fk, by rw [r2e] at U2; exact U2⟩
          have SP := sp2 r2e
          rw [zh_congr kB] at SP
          have SP := SP.base kB
          have g : letters (told (gv h 20 k)) := (told_rl (A.fl fk.1 fk.2).2.1).1
          have Y3 := Y2
          have gl := gk_len A0 Bo rd
          have hl : D.length + (gat (pfF h ko (gv h 21 k) (gv h 22 k) (zh h (gv h 22 k)) (told (gv h 20 k))) (told (gv h 20 k)) (wy (told (gv h 20 k))).toNat 0).length ≤ 600 := by
            have gl : (gat (pfF h ko (gv h 21 k) (gv h 22 k) (zh h (gv h 22 k)) (told (gv h 20 k))) (told (gv h 20 k)) (wy (told (gv h 20 k))).toNat 0).length ≤ 3 := gl
            omega
          refine p_aload 65 rfl rfl rfl ?_
          refine p_callv (le := [some (.inr (.inr 59)), none, none]) (as := [.inr (.inr 59)]) (rest := []) 68 0 0 0 0 rfl rfl (Nat.le_of_ble_eq_true rfl) rfl (Nat.le_of_ble_eq_true rfl) rfl rfl (Nat.le_of_ble_eq_true rfl) rfl (Nat.le_of_ble_eq_true rfl) rfl (Nat.le_refl _) (Nat.le_refl _) rfl rfl (tg_59 S2) ?_
          refine x_addCuts S2 SP g Y3 hl (fun y4 p4 S4 => ?_)
          have kp4 : Keep fcA h y4 := kp2.trans (p4.1.wide acA_fcA)
          show Wp (d + 19) 0 0 M_X4_findChange 68 [some (.inr (.inr 59)), some (.inr (.inr ao)), some (.inr (.inr ah)), some (.inl (msz h ko)), some (.inl k)] [] y4 _
          -- leaf 2: loop 68 [some (.inr (.inr 59)), some (.inr (.inr ao)), some (.inr (.inr ah)), some (.inl (msz h ko)), some (.inl k)] st=[] h=y4  kp4
          refine nxt (D ++ gk h ko k) _ ?_ S4 kp4 p4.2 (by rw [List.length_append]; omega) ((p4.1.1 59 6 rfl).trans f6) (fun i => (p4.1.1 62 i rfl).trans (f62 i))
          rw [hD, tot_yes rd, List.append_assoc]
      · show Wp (d + 19) 0 0 M_X4_findChange 49 [some (.inr (.inr 59)), some (.inr (.inr ao)), some (.inr (.inr ah)), some (.inl (msz h ko)), some (.inl k)] [.inl 0] h1 _
        refine p_if_eq_t 68 rfl rfl (by decide) ?_
        -- leaf 3: loop 68 [some (.inr (.inr 59)), some (.inr (.inr ao)), some (.inr (.inr ah)), some (.inl (msz h ko)), some (.inl k)] st=[] h=h1  k1
        refine nxt D _ ?_ S1 k1 Y (by omega) o6 o62
        rw [hD, tot_no (fun r => c1 (fl.2 ?_))]
        have y := r.1
        unfold isFl at y ⊢
        rw [enw, e5, kB.1 94 k rfl, kB.1 98 k rfl]; exact y
  have Y0 : ∀ h', gv h' 59 3 = 0 → CXr h' [] := fun h' e => ⟨e, by decide, fun c hc => absurd hc List.not_mem_nil, fun c x hx => by cases hx⟩
  rcases Bo with ⟨rfl, k0⟩ | ⟨z1, z2, z3, Ro⟩
  · have em : msz h ko = 0 := if_pos k0
    rw [em] at J21
    refine p_aload 1 rfl rfl rfl ?_
    refine p_const 2 rfl rfl ?_
    refine p_putfi (j := 3) 5 rfl rfl rfl (fun z => absurd z (by decide)) (tg_59 S) rfl ?_
    refine p_nmh (fun y1 e1 => ?_)
    have S1 : Shape y1 := by rw [e1]; exact S.svF ff_59_3 _
    have kp1 : Keep fcA h y1 := by rw [e1]; exact (Keep.rf fcA _).sv rfl _
    refine p_aload 6 rfl rfl rfl ?_
    refine p_ifnonnull 9 13 rfl rfl rfl (fun z => absurd (by rfl) z) (fun c2 => ?_)
    refine p_const 10 rfl rfl ?_
    refine p_goto 17 rfl rfl ?_
    refine p_istore (ls' := [some (.inr (.inr 59)), some (.inr (.inr 0)), some (.inr (.inr ah)), some (.inl 0), none]) 18 rfl rfl (Nat.le_of_ble_eq_true rfl) rfl ?_
    refine p_const 19 rfl rfl ?_
    refine p_istore (ls' := [some (.inr (.inr 59)), some (.inr (.inr 0)), some (.inr (.inr ah)), some (.inl 0), some (.inl 1)]) 21 rfl rfl (Nat.le_of_ble_eq_true rfl) rfl ?_
    -- leaf 1: loop 21 [some (.inr (.inr 59)), some (.inr (.inr 0)), some (.inr (.inr ah)), some (.inl 0), some (.inl 1)] st=[] h=y1 e1 kp1
    exact J21 (gv h 18 5).toNat 1 [] _ (by omega) (by omega) rfl S1 kp1 (Y0 _ (by rw [e1, sv_eq])) (Nat.zero_le _) (by rw [e1, sv_nf (by decide)]) (fun i => by rw [e1, sv_ne (by decide)])
  · have em : msz h ko = gv h 79 ko := if_neg (by omega)
    obtain ⟨pl, Bk⟩ := Ro.bks
    have f0 := Bk.f0
    rw [em, ← f0] at J21
    refine p_aload 1 rfl rfl rfl ?_
    refine p_const 2 rfl rfl ?_
    refine p_putfi (j := 3) 5 rfl rfl rfl (fun z => absurd z (by decide)) (tg_59 S) rfl ?_
    refine p_nmh (fun y1 e1 => ?_)
    have S1 : Shape y1 := by rw [e1]; exact S.svF ff_59_3 _
    have kp1 : Keep fcA h y1 := by rw [e1]; exact (Keep.rf fcA _).sv rfl _
    refine p_aload 6 rfl rfl rfl ?_
    refine p_ifnonnull 9 13 rfl rfl rfl (fun c2 => ?_) (fun z => absurd z (by omega))
    refine p_aload 14 rfl rfl rfl ?_
    refine p_getfi (j := 0) (z := gv h ao 0) 17 rfl rfl rfl (Bk.kp kp1 fcA_b).tag rfl (kp1.1 _ _ (fcA_b _ _ Bk.ge)) ?_
    refine p_istore (ls' := [some (.inr (.inr 59)), some (.inr (.inr ao)), some (.inr (.inr ah)), some (.inl (gv h ao 0)), none]) 18 rfl rfl (Nat.le_of_ble_eq_true rfl) rfl ?_
    refine p_const 19 rfl rfl ?_
    refine p_istore (ls' := [some (.inr (.inr 59)), some (.inr (.inr ao)), some (.inr (.inr ah)), some (.inl (gv h ao 0)), some (.inl 1)]) 21 rfl rfl (Nat.le_of_ble_eq_true rfl) rfl ?_
    -- leaf 1: loop 21 [some (.inr (.inr 59)), some (.inr (.inr ao)), some (.inr (.inr ah)), some (.inl (gv h ao 0)), some (.inl 1)] st=[] h=y1 e1 kp1
    exact J21 (gv h 18 5).toNat 1 [] _ (by omega) (by omega) rfl S1 kp1 (Y0 _ (by rw [e1, sv_eq])) (Nat.zero_le _) (by rw [e1, sv_nf (by decide)]) (fun i => by rw [e1, sv_ne (by decide)])
def ChgX (h : PH) (n r : Int) (h' : PH) : Prop := (¬ (0 ≤ n ∧ n ≤ gv h 18 5) ∧ r = -1 ∧ gv h' 59 6 = gv h 59 6 ∧ ∀ i, gv h' 62 i = gv h 62 i) ∨ ((0 ≤ n ∧ n ≤ gv h 18 5) ∧ ∃ l, ChgR (tot h (kb h) (bkAt h n n.toNat) (gv h 18 5).toNat 1) (msz h (kb h)) r l ∧ ((r = -1 ∧ gv h' 59 6 = gv h 59 6 ∧ ∀ i, gv h' 62 i = gv h 62 i) ∨ (r ≠ -1 ∧ gv h' 59 6 = r ∧ ∀ (i : Nat) w, l[i]? = some w → gv h' 62 i = w)))
theorem x_change {d : Nat} {h : PH} {q : PQ} (S : Shape h) (A : AI h) (F : FI h) (n : Int) (K : ∀ r h', (Keep fcA h h' ∧ ChgX h n r h') → Shape h' → q (some (.inl r)) h') :
    Wp (d + 20) 0 0 M_X11_change 0 [some (.inr (.inr 2)), some (.inl n)] [] h q := by
  have A0 := A
  have c5 := A.1
  have no : ¬ (0 ≤ n ∧ n ≤ gv h 18 5) → q (some (.inl (-1))) h := fun z => K _ _ ⟨Keep.rf _ _, Or.inl ⟨z, rfl, rfl, fun _ => rfl⟩⟩ S
  refine p_iload 1 rfl rfl rfl ?_
  refine p_if_lt 4 15 rfl rfl rfl (fun c1 => ?_) (fun c1 => ?_)
  · skip
    refine p_const 16 rfl rfl ?_
    refine p_iret rfl rfl ?_
    -- leaf 1: answer [.inl (-1)] h=h 
    exact no (fun z => by omega)
  · skip
    refine p_iload 5 rfl rfl rfl ?_
    refine p_aload 6 rfl rfl rfl ?_
    refine p_getfr (j := 3) (z := 18) 9 rfl rfl rfl (tg_2 S) rfl (fi_2_3 S) ?_
    refine p_getfi (j := 5) (z := gv h 18 5) 12 rfl rfl rfl (tg_18 S) rfl rfl ?_
    refine p_ic_le 15 17 rfl rfl rfl (fun c2 => ?_) (fun c2 => ?_)
    · skip
      refine p_aload 18 rfl rfl rfl ?_
      refine p_getfr (j := 7) (z := 59) 21 rfl rfl rfl (tg_2 S) rfl (fi_2_7 S) ?_
      refine p_aload 22 rfl rfl rfl ?_
      refine p_callv (le := [some (.inr (.inr 2))]) (as := [.inr (.inr 2)]) (rest := [.inr (.inr 59)]) 25 0 0 0 0 rfl rfl (Nat.le_of_ble_eq_true rfl) rfl (Nat.le_of_ble_eq_true rfl) rfl rfl (Nat.le_of_ble_eq_true rfl) rfl (Nat.le_of_ble_eq_true rfl) rfl (Nat.le_refl _) (Nat.le_refl _) rfl rfl (tg_2 S) ?_
      refine x_knownBook S  (A0) ?_
      show Wp (d + 20) 0 0 M_X11_change 25 [some (.inr (.inr 2)), some (.inl n)] [.inr (.inr (xb h)), .inr (.inr 59)] h _
      refine p_aload 26 rfl rfl rfl ?_
      refine p_getfr (j := 3) (z := 18) 29 rfl rfl rfl (tg_2 S) rfl (fi_2_3 S) ?_
      refine p_iload 30 rfl rfl rfl ?_
      refine p_callv (le := [some (.inr (.inr 18)), some (.inl n), none]) (as := [.inr (.inr 18), .inl n]) (rest := [.inr (.inr (xb h)), .inr (.inr 59)]) 33 0 0 0 0 rfl rfl (Nat.le_of_ble_eq_true rfl) rfl (Nat.le_of_ble_eq_true rfl) rfl rfl (Nat.le_of_ble_eq_true rfl) rfl (Nat.le_of_ble_eq_true rfl) rfl (Nat.le_refl _) (Nat.le_refl _) rfl rfl (tg_18 S) ?_
      refine x_bookAt S n (A0) (by omega) (by omega) ?_
      show Wp (d + 20) 0 0 M_X11_change 33 [some (.inr (.inr 2)), some (.inl n)] [.inr (.inr (gv h 19 (bkAt h n (n).toNat))), .inr (.inr (xb h)), .inr (.inr 59)] h _
      refine p_callv (le := [some (.inr (.inr 59)), some (.inr (.inr (xb h))), some (.inr (.inr (gv h 19 (bkAt h n (n).toNat)))), none, none]) (as := [.inr (.inr 59), .inr (.inr (xb h)), .inr (.inr (gv h 19 (bkAt h n (n).toNat)))]) (rest := []) 36 0 0 0 0 rfl rfl (Nat.le_of_ble_eq_true rfl) rfl (Nat.le_of_ble_eq_true rfl) rfl rfl (Nat.le_of_ble_eq_true rfl) rfl (Nat.le_of_ble_eq_true rfl) rfl (Nat.le_refl _) (Nat.le_refl _) rfl rfl (tg_59 S) ?_
      refine x_findChange S A F (xb h) (gv h 19 (bkAt h n (n).toNat)) (AIkbO A) (A.atO (by omega) (by omega)) (fun r5 y5 p5 S5 => ?_)
      have kp5 : Keep fcA h y5 := p5.1
      show Wp (d + 20) 0 0 M_X11_change 36 [some (.inr (.inr 2)), some (.inl n)] [.inl r5] y5 _
      refine p_iret rfl rfl ?_
      -- leaf 2: answer [.inl r5] h=y5  kp5
      exact K _ _ ⟨kp5, Or.inr ⟨by omega, p5.2⟩⟩ S5
    · skip
      refine p_const 16 rfl rfl ?_
      refine p_iret rfl rfl ?_
      -- leaf 3: answer [.inl (-1)] h=h 
      exact no (fun z => by omega)

