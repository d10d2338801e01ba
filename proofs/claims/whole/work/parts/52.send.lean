/-! SEND, class's side: plan and the hoists of it -/
/-- what planning rests on: which hoist, what is plain, which parts -/
noncomputable abbrev hstF (h : PH) (s : Int) : Int → Int := fun v => hoF v (gv h 86 s) (gv h 87 s)
abbrev plnF (h : PH) (k s t z : Int) : Int → Prop := fun v => ∃ l, only (Rd (Ws h k s t z) v) l
abbrev cndF (h : PH) (k s t z : Int) (ids : Int → Int) (n : Int) : Int → List (Int × Int × Int) := fun i => cx (fun j => tv h k s t z j) (fun j => fi h k j) (fun j => cd h k j) ids (gv h 79 k).toNat n 4 i 0 0
noncomputable abbrev bstF (h : PH) (k s t z : Int) (ids : Int → Int) (n : Int) : Nat → Int → Q4t := bst (hstF h s) (plnF h k s t z) (cndF h k s t z ids n) n
theorem cndF_congr {h h' : PH} (K : Keep bkB h h') (k s t z : Int) (ids : Int → Int) (n : Int) : cndF h' k s t z ids n = cndF h k s t z ids n := by
  obtain ⟨_, e2, _, _, _, e6⟩ := bk_congr K k
  unfold cndF
  rw [show (fun j => tv h' k s t z j) = (fun j => tv h k s t z j) from funext fun j => tv_congr K _ _ _ _ _, show (fun j => fi h' k j) = (fun j => fi h k j) from funext fun j => fi_congr K _ _, show (fun j => cd h' k j) = (fun j => cd h k j) by rw [e2], e6]
theorem bstF_congr {h h' : PH} (K : Keep bkB h h') (k s t z : Int) (ids : Int → Int) (n : Int) : bstF h' k s t z ids n = bstF h k s t z ids n := by
  unfold bstF
  rw [cndF_congr K, show hstF h' s = hstF h s by unfold hstF; rw [K.1 86 s rfl, K.1 87 s rfl], show plnF h' k s t z = plnF h k s t z by unfold plnF; rw [Ws_congr K]]
theorem BkR.cds {h : PH} {a k : Int} (R : BkR h a k) : ∀ x : Int, 0 ≤ x → x < ((gv h 79 k).toNat : Int) → letters (cd h k x) := fun x x0 x1 => by
  obtain ⟨m0, m40, pl, pl0, pl7, Bk, I⟩ := R
  obtain ⟨_, ⟨_, g⟩, _⟩ := I x x0 (by omega)
  exact g
theorem BkR.cnd {h : PH} {a k s t z n : Int} {ids : Int → Int} (R : BkR h a k) : ∀ i x, x ∈ cndF h k s t z ids n i → (i < x.1 ∧ x.1 ≤ n) ∧ letters x.2.1 ∧ rl x.2.1 = x.2.2 ∧ x.2.2 ≤ 4 := fun i x hx => cx_mem R.cds 4 i 0 0 (Or.inl ⟨rfl, rfl⟩) x hx
theorem BkR.bok {h : PH} {a k s t z n : Int} {ids : Int → Int} (R : BkR h a k) (m : Nat) (i : Int) (h0 : n - m ≤ i) (h1 : i ≤ n) : bOk (hstF h s) (plnF h k s t z) n (bstF h k s t z ids n m) i := bst_ok R.cnd m i h0 h1
theorem bstF_new {h : PH} {k s t z n i : Int} {ids : Int → Int} {M : Nat} (e : i = n - (M + 1)) : bstF h k s t z ids n (M + 1) i = List.foldl (stpF (fun j => (bstF h k s t z ids n M j).1) (fun j => (bstF h k s t z ids n M j).2.1) (hstF h s) (plnF h k s t z)) (1000, 0, 0, 0) (cndF h k s t z ids n i) := bst_new e
theorem bstF_old {h : PH} {k s t z n i : Int} {ids : Int → Int} {M : Nat} (e : n - M ≤ i) : bstF h k s t z ids n (M + 1) i = bstF h k s t z ids n M i := bst_old e
/-- the class's cells for name i -/
def PXn (h : PH) (n i : Int) (u : Q4t) : Prop := gv h 36 i = u.1 ∧ (u.1 < 1000 → gv h 37 i = u.2.1 ∧ (i < n → gv h 34 i = u.2.2.1 ∧ gv h 35 i = u.2.2.2))
theorem PXn.kp {h h' : PH} {n i : Int} {u : Q4t} (P : PXn h n i u) (e : ∀ a, 34 ≤ a → a ≤ 37 → gv h' a i = gv h a i) : PXn h' n i u := by
  unfold PXn
  rw [e 36 (by decide) (by decide), e 37 (by decide) (by decide), e 34 (by decide) (by decide), e 35 (by decide) (by decide)]
  exact P
def plA (a i : Int) : Bool := decide ((a = 24 ∧ (i = 2 ∨ i = 3 ∨ i = 4 ∨ i = 9 ∨ i = 10)) ∨ (25 ≤ a ∧ a ≤ 28) ∨ a = 30 ∨ a = 31 ∨ (a = 32 ∧ (i = 4 ∨ i = 5)) ∨ (34 ≤ a ∧ a ≤ 37))
theorem plA_bkB : ∀ a i, bkB a i = false → plA a i = false := fun a i => dw (by omega)
theorem plA_xA : ∀ a i, xA a i = false → plA a i = false := fun a i => dw (by omega)
theorem pA_plA : ∀ a i, plA a i = false → pA a i = false := fun a i => dw (by omega)
theorem sdA_plA (f : Int) : ∀ a i, plA a i = false → sdA f a i = false := fun a i => dw (by omega)
theorem x_plan {d : Nat} {h : PH} {q : PQ} (S : Shape h) (a s t : Int) {k n : Int} (R : BkR h a k) (F : FI h) (hs : 0 ≤ s ∧ s < 10) (ht : 0 ≤ t ∧ t < 1000) (hn : gv h 32 3 = n) (n1 : 1 ≤ n) (n12 : n ≤ 12)
    (K : ∀ r h', (Keep plA h h' ∧ (∀ i, 0 ≤ i → i ≤ n → PXn h' n i (bstF h k s t (zh h t) (fun i => gv h 33 i) n n.toNat i)) ∧ r = if (bstF h k s t (zh h t) (fun i => gv h 33 i) n n.toNat 0).1 < 1000 then (bstF h k s t (zh h t) (fun i => gv h 33 i) n n.toNat 0).1 else -1) → Shape h' → q (some (.inl r)) h') :
    Wp (d + 16) 0 0 M_X7_plan 0 [some (.inr (.inr 32)), some (.inr (.inr a)), some (.inl s), some (.inl t), none] [] h q := by
  have L : ∀ (m : Nat) (f : Int) (h1 : PH), f = m - 1 → m ≤ n → Shape h1 → Keep plA h h1 → Prep h1 a k s t (zh h t) → gv h1 32 4 = a → gv h1 32 5 = s → (∀ i, f < i → i ≤ n → PXn h1 n i (bstF h k s t (zh h t) (fun i => gv h 33 i) n (n - m).toNat i)) →
      Wp (d + 16) 0 0 M_X7_plan 48 [some (.inr (.inr 32)), some (.inr (.inr a)), some (.inl s), some (.inl t), some (.inl f)] [] h1 q := by
    intro m
    induction m with
    | zero =>
      intro f h1 hf mn S1 kp Pr b4 b5 ce
      have c3 : gv h1 32 3 = n := (kp.1 32 3 rfl).trans hn
      have e0 : n - ((0 : Nat) : Int) = n := by omega
      rw [e0] at ce
      have c0 := ce 0 (by omega) (by omega)
      have bo := R.bok (s := s) (t := t) (z := zh h t) (ids := fun i => gv h 33 i) (n := n) n.toNat 0 (by omega) (by omega)
      refine p_iload 50 rfl rfl rfl ?_
      refine p_if_lt_t 79 rfl rfl (by omega) ?_
      refine p_aload 80 rfl rfl rfl ?_
      refine p_getfi (j := 3) (z := n) 83 rfl rfl rfl (tg_32 S1) rfl c3 ?_
      refine p_if_le 86 107 rfl rfl rfl (fun c1 => ?_) (fun c1 => ?_)
      · skip
        refine p_const 108 rfl rfl ?_
        refine p_iret rfl rfl ?_
        -- leaf 1: answer [.inl (-1)] h=h1 
        exfalso; omega
      · skip
        refine p_aload 87 rfl rfl rfl ?_
        refine p_getfr (j := 8) (z := 36) 90 rfl rfl rfl (tg_32 S1) rfl (fi_32_8 S1) ?_
        refine p_const 91 rfl rfl ?_
        refine p_iald (w := 13) (z := gv h1 36 0) 92 rfl rfl (tg_36 S1) (ln_36 S1) (by decide) (by decide) rfl ?_
        refine p_const 95 rfl rfl ?_
        refine p_ic_ge 98 107 rfl rfl rfl (fun c2 => ?_) (fun c2 => ?_)
        · skip
          refine p_const 108 rfl rfl ?_
          refine p_iret rfl rfl ?_
          -- leaf 2: answer [.inl (-1)] h=h1 
          exact K _ h1 ⟨kp, fun i i0 i1 => ce i (by omega) i1, by rw [if_neg (by rw [← c0.1]; omega)]⟩ S1
        · skip
          refine p_aload 99 rfl rfl rfl ?_
          refine p_getfr (j := 8) (z := 36) 102 rfl rfl rfl (tg_32 S1) rfl (fi_32_8 S1) ?_
          refine p_const 103 rfl rfl ?_
          refine p_iald (w := 13) (z := gv h1 36 0) 104 rfl rfl (tg_36 S1) (ln_36 S1) (by decide) (by decide) rfl ?_
          refine p_goto 108 rfl rfl ?_
          refine p_iret rfl rfl ?_
          -- leaf 3: answer [.inl (gv h1 36 0)] h=h1 
          exact K _ h1 ⟨kp, fun i i0 i1 => ce i (by omega) i1, by rw [if_pos (by rw [← c0.1]; omega)]; exact c0.1⟩ S1
    | succ m ih =>
      intro f h1 hf mn S1 kp Pr b4 b5 ce
      have kB := kp.wide plA_bkB
      have c3 : gv h1 32 3 = n := (kp.1 32 3 rfl).trans hn
      refine p_iload 50 rfl rfl rfl ?_
      refine p_if_lt_f 53 rfl rfl (by omega) ?_
      refine p_aload 54 rfl rfl rfl ?_
      refine p_getfr (j := 8) (z := 36) 57 rfl rfl rfl (tg_32 S1) rfl (fi_32_8 S1) ?_
      refine p_iload 59 rfl rfl rfl ?_
      refine p_const 62 rfl rfl ?_
      refine p_iast (w := 13) 63 rfl rfl (by decide) (tg_36 S1) (ln_36 S1) (by omega) (by omega) ?_
      refine p_nmh (fun y1 e1 => ?_)
      have S1 : Shape y1 := by rw [e1]; exact S1.svA fa_36 _ _
      refine p_aload 64 rfl rfl rfl ?_
      refine p_iload 66 rfl rfl rfl ?_
      refine p_iload 68 rfl rfl rfl ?_
      refine p_const 69 rfl rfl ?_
      refine p_const 70 rfl rfl ?_
      have kp1 : Keep plA h y1 := by rw [e1]; exact kp.sv rfl _
      have kB1 := kp1.wide plA_bkB
      have ks : Keep (sdA f) h1 y1 := by rw [e1]; exact (Keep.rf _ _).sv (sdA_yes ⟨by omega, rfl⟩) _
      have o1 : ∀ a i, i ≠ f → gv y1 a i = gv h1 a i := fun a i hi => by rw [e1, sv_nf hi]
      have hM : (n - ((m : Nat) : Int)).toNat = (n - ((m + 1 : Nat) : Int)).toNat + 1 := by omega
      have cb : ∀ j, f < j → j ≤ n → gv y1 36 j = 1000 ∨ ((0 ≤ gv y1 36 j ∧ gv y1 36 j ≤ 12) ∧ 0 ≤ gv y1 37 j ∧ gv y1 37 j ≤ 48) := fun j j0 j1 => by
        have cj := ce j j0 j1
        have bo := R.bok (s := s) (t := t) (z := zh h t) (ids := fun i => gv h 33 i) (n := n) (n - ((m + 1 : Nat) : Int)).toNat j (by omega) j1
        rw [o1 36 j (by omega), o1 37 j (by omega), cj.1]
        rcases bo with y | ⟨y1, y2, _⟩
        · exact Or.inl y
        · have := (cj.2 (by omega)).1
          refine Or.inr ⟨⟨by omega, by omega⟩, by omega, by omega⟩
      have PB1 : PB y1 a k s t (zh h t) n f := ⟨R.kp kB1, Pr.kp ks (sdA_prep f), F.kp kB1, hs, ⟨(kp1.1 32 3 rfl).trans hn, n1, n12⟩, by rw [e1, sv_ne (by decide)]; exact b4, by rw [e1, sv_ne (by decide)]; exact b5, ⟨by omega, by omega⟩, cb⟩
      have PX1 : PX y1 f (1000, 0, 0, 0) := ⟨by rw [e1, sv_eq], fun y => absurd y (by decide)⟩
      refine p_callv (le := [some (.inr (.inr 32)), some (.inl f), some (.inl f), some (.inl 0), some (.inl 0), none, none]) (as := [.inr (.inr 32), .inl f, .inl f, .inl 0, .inl 0]) (rest := []) 73 0 0 0 0 rfl rfl (Nat.le_of_ble_eq_true rfl) rfl (Nat.le_of_ble_eq_true rfl) rfl rfl (Nat.le_of_ble_eq_true rfl) rfl (Nat.le_of_ble_eq_true rfl) rfl (Nat.le_refl _) (Nat.le_refl _) rfl rfl (tg_32 S1) ?_
      refine x_extend PB1 4 d _ f 0 0 (1000, 0, 0, 0) y1 (by omega) (by omega) (by omega) (by omega) (by omega) (Or.inl ⟨rfl, rfl⟩) S1 (Keep.rf _ _) PX1 (fun y2 p2 S2 => ?_)
      show Wp (d + 16) 0 0 M_X7_plan 73 [some (.inr (.inr 32)), some (.inr (.inr a)), some (.inl s), some (.inl t), some (.inl f)] [] y2 _
      refine p_iinc (y := f - 1) (ls' := [some (.inr (.inr 32)), some (.inr (.inr a)), some (.inl s), some (.inl t), some (.inl (f - 1))]) 76 rfl rfl rfl (wsub_id ⟨(by omega), (by omega)⟩) rfl ?_
      refine p_goto 48 rfl rfl ?_
      -- leaf 1: loop 48 [some (.inr (.inr 32)), some (.inr (.inr a)), some (.inl s), some (.inl t), some (.inl (f - 1))] st=[] h=y2 
      obtain ⟨k2, P2⟩ := p2
      have e33 : (fun i => gv y1 33 i) = (fun i => gv h 33 i) := funext fun i => kp1.1 33 i rfl
      have hcx : CX1 y1 k s t (zh h t) n 4 f 0 0 = cndF h k s t (zh h t) (fun i => gv h 33 i) n f := by
        have := congrFun (cndF_congr kB1 k s t (zh h t) (fun i => gv y1 33 i) n) f
        rw [e33] at this
        rw [← this, ← e33]
      have hfold : List.foldl (SX1 y1 k s t (zh h t)) (1000, 0, 0, 0) (CX1 y1 k s t (zh h t) n 4 f 0 0) = bstF h k s t (zh h t) (fun i => gv h 33 i) n (n - ((m : Nat) : Int)).toNat f := by
        rw [hM, bstF_new (by omega), hcx]
        refine fold_congr _ _ (fun x hx u => ?_)
        obtain ⟨⟨x1, x2⟩, x3, x4, x5⟩ := R.cnd f x hx
        have cj := ce x.1 x1 x2
        refine stpF_congr ?_ ?_ ?_ ?_
        · show gv y1 36 x.1 = _; rw [o1 36 _ (by omega)]; exact cj.1
        · show gv y1 36 x.1 < 1000 → gv y1 37 x.1 = _; rw [o1 36 _ (by omega), o1 37 _ (by omega), cj.1]; exact fun y => (cj.2 y).1
        · show hoF x.2.1 (gv y1 6 s) (gv y1 7 s) = hoF x.2.1 (gv h 86 s) (gv h 87 s); rw [kB1.1 6 s rfl, kB1.1 7 s rfl, (F.lk s hs.1 hs.2).1, (F.rp s hs.1 hs.2).1]
        · show (∃ l, only (Rd (Ws y1 k s t (zh h t)) x.2.1) l) ↔ _; rw [Ws_congr kB1]
      rw [hfold] at P2
      refine ih (f - 1) _ (by omega) (by omega) S2 (kp1.trans (k2.wide (sdA_plA f))) ((Pr.kp ks (sdA_prep f)).kp k2 (sdA_prep f)) ((k2.1 32 4 (sdA_no (by omega))).trans (by rw [e1, sv_ne (by decide)]; exact b4)) ((k2.1 32 5 (sdA_no (by omega))).trans (by rw [e1, sv_ne (by decide)]; exact b5)) (fun i i0 i1 => ?_)
      by_cases y : i = f
      · rw [y]; exact ⟨P2.1, fun z => ⟨(P2.2 z).1, fun _ => (P2.2 z).2⟩⟩
      · have cj := ce i (by omega) i1
        rw [hM, bstF_old (by omega)]
        exact cj.kp (fun a a0 a1 => (k2.1 a i (sdA_no (by omega))).trans (o1 a i y))
  refine p_aload 1 rfl rfl rfl ?_
  refine p_aload 2 rfl rfl rfl ?_
  refine p_putfr (j := 4) 5 rfl rfl rfl (fun z => absurd z (by decide)) (tg_32 S) rfl ?_
  refine p_nmh (fun y1 e1 => ?_)
  have S1 : Shape y1 := by rw [e1]; exact S.svF ff_32_4 _
  have kp1 : Keep plA h y1 := by rw [e1]; exact (Keep.rf plA _).sv rfl _
  refine p_aload 6 rfl rfl rfl ?_
  refine p_iload 7 rfl rfl rfl ?_
  refine p_putfi (j := 5) 10 rfl rfl rfl (fun z => absurd z (by decide)) (tg_32 S1) rfl ?_
  refine p_nmh (fun y2 e2 => ?_)
  have S2 : Shape y2 := by rw [e2]; exact S1.svF ff_32_5 _
  have kp2 : Keep plA h y2 := by rw [e2]; exact kp1.sv rfl _
  refine p_aload 11 rfl rfl rfl ?_
  refine p_getfr (j := 1) (z := 24) 14 rfl rfl rfl (tg_32 S2) rfl (fi_32_1 S2) ?_
  refine p_aload 15 rfl rfl rfl ?_
  refine p_iload 16 rfl rfl rfl ?_
  refine p_iload 17 rfl rfl rfl ?_
  refine p_callv (le := [some (.inr (.inr 24)), some (.inr (.inr a)), some (.inl s), some (.inl t), none]) (as := [.inr (.inr 24), .inr (.inr a), .inl s, .inl t]) (rest := []) 20 0 0 0 0 rfl rfl (Nat.le_of_ble_eq_true rfl) rfl (Nat.le_of_ble_eq_true rfl) rfl rfl (Nat.le_of_ble_eq_true rfl) rfl (Nat.le_of_ble_eq_true rfl) rfl (Nat.le_refl _) (Nat.le_refl _) rfl rfl (tg_24 S2) ?_
  refine x_prepare S2 a s t (R.kp (kp2.wide plA_bkB)) (F.kp (kp2.wide plA_bkB)) hs ht (fun y3 p3 S3 => ?_)
  have kp3 : Keep plA h y3 := kp2.trans (p3.1.wide pA_plA)
  show Wp (d + 16) 0 0 M_X7_plan 20 [some (.inr (.inr 32)), some (.inr (.inr a)), some (.inl s), some (.inl t), none] [] y3 _
  refine p_aload 21 rfl rfl rfl ?_
  refine p_getfr (j := 8) (z := 36) 24 rfl rfl rfl (tg_32 S3) rfl (fi_32_8 S3) ?_
  refine p_aload 25 rfl rfl rfl ?_
  refine p_getfi (j := 3) (z := n) 28 rfl rfl rfl (tg_32 S3) rfl ((kp3.1 _ _ rfl).trans hn) ?_
  refine p_const 29 rfl rfl ?_
  refine p_iast (w := 13) 30 rfl rfl (by decide) (tg_36 S3) (ln_36 S3) (by omega) (by omega) ?_
  refine p_nmh (fun y4 e4 => ?_)
  have S4 : Shape y4 := by rw [e4]; exact S3.svA fa_36 _ _
  have kp4 : Keep plA h y4 := by rw [e4]; exact kp3.sv rfl _
  refine p_aload 31 rfl rfl rfl ?_
  refine p_getfr (j := 9) (z := 37) 34 rfl rfl rfl (tg_32 S4) rfl (fi_32_9 S4) ?_
  refine p_aload 35 rfl rfl rfl ?_
  refine p_getfi (j := 3) (z := n) 38 rfl rfl rfl (tg_32 S4) rfl ((kp4.1 _ _ rfl).trans hn) ?_
  refine p_const 39 rfl rfl ?_
  refine p_iast (w := 13) 40 rfl rfl (by decide) (tg_37 S4) (ln_37 S4) (by omega) (by omega) ?_
  refine p_nmh (fun y5 e5 => ?_)
  have S5 : Shape y5 := by rw [e5]; exact S4.svA fa_37 _ _
  have kp5 : Keep plA h y5 := by rw [e5]; exact kp4.sv rfl _
  refine p_aload 41 rfl rfl rfl ?_
  refine p_getfi (j := 3) (z := n) 44 rfl rfl rfl (tg_32 S5) rfl ((kp5.1 _ _ rfl).trans hn) ?_
  refine p_const 45 rfl rfl ?_
  refine p_isub (z := n - 1) 46 rfl rfl (w32_id ⟨(by omega), (by omega)⟩) ?_
  refine p_istore (ls' := [some (.inr (.inr 32)), some (.inr (.inr a)), some (.inl s), some (.inl t), some (.inl (n - 1))]) 48 rfl rfl (Nat.le_of_ble_eq_true rfl) rfl ?_
  -- leaf 1: loop 48 [some (.inr (.inr 32)), some (.inr (.inr a)), some (.inl s), some (.inl t), some (.inl (n - 1))] st=[] h=y5 e5,e4 kp5
  have Pr : Prep y3 a k s t (zh h t) := by have y := p3.2; rw [zh_congr (kp2.wide plA_bkB)] at y; exact y
  have ks : Keep (sdA n) y3 y5 := by rw [e5, e4]; exact ((Keep.rf _ _).sv (sdA_yes ⟨by omega, rfl⟩) _).sv (sdA_yes ⟨by omega, rfl⟩) _
  refine L n.toNat (n - 1) _ (by omega) (by omega) S5 kp5 (Pr.kp ks (sdA_prep n)) ?_ ?_ (fun i i0 i1 => ?_)
  · rw [e5, sv_ne (by decide), e4, sv_ne (by decide), p3.1.1 32 4 rfl, e2, sv_nf (by decide), e1, sv_eq]
  · rw [e5, sv_ne (by decide), e4, sv_ne (by decide), p3.1.1 32 5 rfl, e2, sv_eq]
  · have : i = n := by omega
    subst this
    rw [show (i - (i.toNat : Int)).toNat = 0 by omega]
    exact ⟨by rw [e5, sv_ne (by decide), e4, sv_eq]; rfl, fun _ => ⟨by rw [e5, sv_eq]; rfl, fun y => by omega⟩⟩
/-- the hoists from name i on -/
def pth (B : Int → Q4t) (n : Int) : Nat → Int → List Int
  | 0, _ => []
  | f + 1, i => if i < n then (B i).2.2.1 :: pth B n f (B i).2.2.2 else []
theorem pth_end {B : Int → Q4t} {n i : Int} (h : n ≤ i) (f : Nat) : pth B n f i = [] := by
  cases f with
  | zero => rfl
  | succ f => exact if_neg (by omega)
theorem pth_len {hst : Int → Int} {pln : Int → Prop} {B : Int → Q4t} {n : Int} (ok : ∀ i, 0 ≤ i → i ≤ n → bOk hst pln n B i) : ∀ (f : Nat) (i : Int), n - i ≤ f → 0 ≤ i → i ≤ n → (B i).1 < 1000 → ((pth B n f i).length : Int) = (B i).1
  | 0, i, hf, i0, i1, b => by
    have : i = n := by omega
    subst this
    rcases ok i i0 i1 with y | ⟨y, _⟩
    · omega
    · show (0 : Int) = _; omega
  | f + 1, i, hf, i0, i1, b => by
    by_cases z : i < n
    · rcases ok i i0 i1 with y | ⟨y1, y2, y3⟩
      · omega
      · obtain ⟨⟨z1, z2⟩, z3, z4, _⟩ := y3 z
        have ih := pth_len ok f (B i).2.2.2 (by omega) (by omega) z2 z3
        rw [show pth B n (f + 1) i = (B i).2.2.1 :: pth B n f (B i).2.2.2 from if_pos z]
        show ((pth B n f (B i).2.2.2).length + 1 : Int) = _
        omega
    · have : i = n := by omega
      subst this
      rcases ok i i0 i1 with y | ⟨y, _⟩
      · omega
      · rw [pth_end (Int.le_refl i)]; show (0 : Int) = _; omega
theorem x_copy {d : Nat} {h : PH} {q : PQ} (S : Shape h) (a place : Int) {n L : Int} {B : Int → Q4t} {hst : Int → Int} {pln : Int → Prop} (hS : ∀ h, Shape h → ∀ i v, Shape (sv h a i v)) (a2 : 38 ≤ a) (ta : tg h a = 100) (la : ln h a = L) (hL : L ≤ 100000) (ok : ∀ i, 0 ≤ i → i ≤ n → bOk hst pln n B i) (hn : gv h 32 3 = n) (n1 : 1 ≤ n) (n12 : n ≤ 12)
    (ce : ∀ i, 0 ≤ i → i ≤ n → PXn h n i (B i)) (b0 : (B 0).1 < 1000) (p0 : 0 ≤ place) (room : place + (B 0).1 ≤ L)
    (K : ∀ r h', (Keep (fun b _ => decide (b = a)) h h' ∧ r = place + (B 0).1 ∧ (∀ i, i < place ∨ r ≤ i → gv h' a i = gv h a i) ∧ ∀ (j : Nat) w, (pth B n n.toNat 0)[j]? = some w → gv h' a (place + j) = w) → Shape h' → q (some (.inl r)) h') :
    Wp (d + 1) 0 0 M_X7_copyHoists 0 [some (.inr (.inr 32)), some (.inr (.inr a)), some (.inl place), none, none, none] [] h q := by
  have len0 := pth_len ok n.toNat 0 (by omega) (Int.le_refl 0) (by omega) b0
  have bb0 : (B 0).1 ≤ 12 := by
    rcases ok 0 (Int.le_refl 0) (by omega) with y | ⟨y, _⟩ <;> omega
  have E : ∀ (i e c : Int) (h1 : PH), i = n → e = place + (B 0).1 → Shape h1 → Keep (fun b _ => decide (b = a)) h h1 → (∀ i, i < place ∨ e ≤ i → gv h1 a i = gv h a i) → (∀ (j : Nat) w, (pth B n n.toNat 0)[j]? = some w → gv h1 a (place + j) = w) →
      Wp (d + 1) 0 0 M_X7_copyHoists 8 [some (.inr (.inr 32)), some (.inr (.inr a)), some (.inl place), some (.inl e), some (.inl i), some (.inl c)] [] h1 q := by
    intro i e c h1 hi he S1 kp ho hD
    have c3 : gv h1 32 3 = n := (kp.1 32 3 (decide_eq_false (by omega))).trans hn
    have tp1 : tg h1 a = 100 := (kp.2.2.1 a).trans ta
    have lp1 : ln h1 a = L := (kp.2.2.2 a).trans la
    refine p_iload 10 rfl rfl rfl ?_
    refine p_const 12 rfl rfl ?_
    refine p_ic_ge 15 63 rfl rfl rfl (fun c1 => ?_) (fun c1 => ?_)
    · skip
      refine p_iload 64 rfl rfl rfl ?_
      refine p_iret rfl rfl ?_
      -- leaf 1: answer [.inl e] h=h1 
      first | exact K e h1 ⟨kp, he, ho, hD⟩ S1 | (exfalso; omega)
    · skip
      refine p_iload 17 rfl rfl rfl ?_
      refine p_if_lt 20 63 rfl rfl rfl (fun c2 => ?_) (fun c2 => ?_)
      · skip
        refine p_iload 64 rfl rfl rfl ?_
        refine p_iret rfl rfl ?_
        -- leaf 2: answer [.inl e] h=h1 
        first | exact K e h1 ⟨kp, he, ho, hD⟩ S1 | (exfalso; omega)
      · skip
        refine p_iload 22 rfl rfl rfl ?_
        refine p_aload 23 rfl rfl rfl ?_
        refine p_getfi (j := 3) (z := n) 26 rfl rfl rfl (tg_32 S1) rfl c3 ?_
        refine p_ic_ge_t 63 rfl rfl (by omega) ?_
        refine p_iload 64 rfl rfl rfl ?_
        refine p_iret rfl rfl ?_
        -- leaf 3: answer [.inl e] h=h1 
        first | exact K e h1 ⟨kp, he, ho, hD⟩ S1 | (exfalso; omega)
  have J : ∀ (f : Nat) (i e c : Int) (D : List Int) (h1 : PH), n - i ≤ f → 0 ≤ i → i ≤ n → (B i).1 < 1000 → (pth B n n.toNat 0) = D ++ pth B n f i → e = place + D.length → c = D.length → Shape h1 → Keep (fun b _ => decide (b = a)) h h1 → (∀ i, i < place ∨ e ≤ i → gv h1 a i = gv h a i) → (∀ (j : Nat) w, D[j]? = some w → gv h1 a (place + j) = w) →
      Wp (d + 1) 0 0 M_X7_copyHoists 8 [some (.inr (.inr 32)), some (.inr (.inr a)), some (.inl place), some (.inl e), some (.inl i), some (.inl c)] [] h1 q := by
    have fin : ∀ (f : Nat) (i e : Int) (D : List Int) (h1 : PH), i = n → (pth B n n.toNat 0) = D ++ pth B n f i → e = place + D.length → (∀ (j : Nat) w, D[j]? = some w → gv h1 a (place + j) = w) → e = place + (B 0).1 ∧ (∀ (j : Nat) w, (pth B n n.toNat 0)[j]? = some w → gv h1 a (place + j) = w) := by
      intro f i e D h1 hi hp he hD
      subst hi
      rw [pth_end (Int.le_refl i), List.append_nil] at hp
      exact ⟨by rw [he, ← len0, hp], by rw [hp]; exact hD⟩
    intro f
    induction f with
    | zero =>
      intro i e c D h1 hf i0 i1 bi hp he hc S1 kp ho hD
      obtain ⟨f1, f2⟩ := fin 0 i e D h1 (by omega) hp he hD
      exact E i e c h1 (by omega) f1 S1 kp ho f2
    | succ f ih =>
      intro i e c D h1 hf i0 i1 bi hp he hc S1 kp ho hD
      by_cases z : i < n
      · have c3 : gv h1 32 3 = n := (kp.1 32 3 (decide_eq_false (by omega))).trans hn
        have e34 : gv h1 34 i = gv h 34 i := kp.1 34 i (decide_eq_false (by omega))
        have e35 : gv h1 35 i = gv h 35 i := kp.1 35 i (decide_eq_false (by omega))
        have tp1 : tg h1 a = 100 := (kp.2.2.1 a).trans ta
        have lp1 : ln h1 a = L := (kp.2.2.2 a).trans la
        have pl := pth_len ok (f + 1) i (by omega) i0 i1 bi
        have len : (D.length : Int) + (pth B n (f + 1) i).length = (B 0).1 := by rw [← len0, hp, List.length_append]; rfl
        have bk := ok i i0 i1
        have cei := ce i i0 i1
        have ci2 := cei.2 bi
        obtain ⟨g34, g35⟩ := ci2.2 z
        rcases bk with y | ⟨⟨y1, y1'⟩, y2, y3⟩
        · omega
        obtain ⟨⟨z1, z2⟩, z3, z4, _⟩ := y3 z
        have z5 : 0 ≤ (B (B i).2.2.2).1 := by
          rcases ok (B i).2.2.2 (by omega) z2 with y | ⟨y, _⟩ <;> omega
        refine p_iload 10 rfl rfl rfl ?_
        refine p_const 12 rfl rfl ?_
        refine p_ic_ge_f 15 rfl rfl (by omega) ?_
        refine p_iload 17 rfl rfl rfl ?_
        refine p_if_lt_f 20 rfl rfl (by omega) ?_
        refine p_iload 22 rfl rfl rfl ?_
        refine p_aload 23 rfl rfl rfl ?_
        refine p_getfi (j := 3) (z := n) 26 rfl rfl rfl (tg_32 S1) rfl c3 ?_
        refine p_ic_ge_f 29 rfl rfl (by omega) ?_
        refine p_iload 30 rfl rfl rfl ?_
        refine p_aload 31 rfl rfl rfl ?_
        refine p_alen (w := L) 32 rfl rfl (by rw [tp1]; decide) lp1 ?_
        refine p_ic_ge_f 35 rfl rfl (by omega) ?_
        refine p_aload 36 rfl rfl rfl ?_
        refine p_iload 37 rfl rfl rfl ?_
        refine p_aload 38 rfl rfl rfl ?_
        refine p_getfr (j := 6) (z := 34) 41 rfl rfl rfl (tg_32 S1) rfl (fi_32_6 S1) ?_
        refine p_iload 43 rfl rfl rfl ?_
        refine p_iald (w := 13) (z := gv h1 34 i) 44 rfl rfl (tg_34 S1) (ln_34 S1) (by omega) (by omega) rfl ?_
        refine p_iast (w := L) 45 rfl rfl (by omega) tp1 lp1 (by omega) (by omega) ?_
        refine p_nmh (fun y1 e1 => ?_)
        have S1 : Shape y1 := by rw [e1]; exact hS _ S1 _ _
        refine p_iinc (y := e + 1) (ls' := [some (.inr (.inr 32)), some (.inr (.inr a)), some (.inl place), some (.inl (e + 1)), some (.inl i), some (.inl c)]) 48 rfl rfl rfl (w32_id ⟨(by omega), (by omega)⟩) rfl ?_
        refine p_aload 49 rfl rfl rfl ?_
        refine p_getfr (j := 7) (z := 35) 52 rfl rfl rfl (tg_32 S1) rfl (fi_32_7 S1) ?_
        refine p_iload 54 rfl rfl rfl ?_
        refine p_iald (w := 13) (z := gv y1 35 i) 55 rfl rfl (tg_35 S1) (ln_35 S1) (by omega) (by omega) rfl ?_
        refine p_istore (ls' := [some (.inr (.inr 32)), some (.inr (.inr a)), some (.inl place), some (.inl (e + 1)), some (.inl (gv y1 35 i)), some (.inl c)]) 57 rfl rfl (Nat.le_of_ble_eq_true rfl) rfl ?_
        refine p_iinc (y := c + 1) (ls' := [some (.inr (.inr 32)), some (.inr (.inr a)), some (.inl place), some (.inl (e + 1)), some (.inl (gv y1 35 i)), some (.inl (c + 1))]) 60 rfl rfl rfl (w32_id ⟨(by omega), (by omega)⟩) rfl ?_
        refine p_goto 8 rfl rfl ?_
        -- leaf 1: loop 8 [some (.inr (.inr 32)), some (.inr (.inr a)), some (.inl place), some (.inl (e + 1)), some (.inl (gv y1 35 i)), some (.inl (c + 1))] st=[] h=y1 e1
        have q35 : gv y1 35 i = (B i).2.2.2 := by rw [e1, sv_ne (by omega), e35]; exact g35
        have q34 : gv h1 34 i = (B i).2.2.1 := e34.trans g34
        refine ih _ (e + 1) (c + 1) (D ++ [(B i).2.2.1]) _ (by rw [q35]; omega) (by rw [q35]; omega) (by rw [q35]; exact z2) (by rw [q35]; exact z3) ?_ ?_ ?_ S1 (by rw [e1]; exact kp.sv (decide_eq_true rfl) _) ?_ ?_
        · rw [hp, List.append_assoc, q35]; exact congrArg _ (if_pos z)
        · rw [List.length_append, he]; show _ = place + ((D.length + 1 : Nat) : Int); omega
        · rw [List.length_append, hc]; show _ = ((D.length + 1 : Nat) : Int); omega
        · intro j hj; rw [e1, sv_nf (by omega)]; exact ho j (by omega)
        · intro j w hj
          by_cases y : j < D.length
          · rw [List.getElem?_append_left y] at hj; rw [e1, sv_nf (by omega)]; exact hD j w hj
          · rw [List.getElem?_append_right (by omega)] at hj
            have y0 : j = D.length := by
              apply Decidable.byContradiction
              intro y0
              rw [List.getElem?_eq_none (by show 1 ≤ j - D.length; omega)] at hj
              cases hj
            rw [y0, Nat.sub_self] at hj
            have hj : some (B i).2.2.1 = some w := hj
            cases hj
            rw [e1, y0, ← he, sv_eq]; exact q34
      · obtain ⟨f1, f2⟩ := fin (f + 1) i e D h1 (by omega) hp he hD
        exact E i e c h1 (by omega) f1 S1 kp ho f2
  refine p_iload 1 rfl rfl rfl ?_
  refine p_istore (ls' := [some (.inr (.inr 32)), some (.inr (.inr a)), some (.inl place), some (.inl place), none, none]) 2 rfl rfl (Nat.le_of_ble_eq_true rfl) rfl ?_
  refine p_const 3 rfl rfl ?_
  refine p_istore (ls' := [some (.inr (.inr 32)), some (.inr (.inr a)), some (.inl place), some (.inl place), some (.inl 0), none]) 5 rfl rfl (Nat.le_of_ble_eq_true rfl) rfl ?_
  refine p_const 6 rfl rfl ?_
  refine p_istore (ls' := [some (.inr (.inr 32)), some (.inr (.inr a)), some (.inl place), some (.inl place), some (.inl 0), some (.inl 0)]) 8 rfl rfl (Nat.le_of_ble_eq_true rfl) rfl ?_
  -- leaf 1: loop 8 [some (.inr (.inr 32)), some (.inr (.inr a)), some (.inl place), some (.inl place), some (.inl 0), some (.inl 0)] st=[] h=h 
  exact J n.toNat 0 place 0 [] h (by omega) (by omega) (by omega) b0 rfl (by show place = place + 0; omega) rfl S (Keep.rf _ _) (fun _ _ => rfl) (fun j w hj => by cases hj)
/-! the message, addressed -/
theorem x_idOf {d : Nat} {h : PH} {q : PQ} (_S : Shape h) (a v : Int) {n pl : Int} {N : Int → Int} (B : BkS h a n pl) (n0 : 0 ≤ n) (n40 : n ≤ 40) (hN : ∀ i, 0 ≤ i → i < n → gv h (a + 1) i = N i) (K : q (some (.inl (frs N v n.toNat))) h) :
    Wp (d + 1) 0 0 M_X1_idOf 0 [some (.inr (.inr a)), some (.inl v), none] [] h q := by
  have fr : ∀ r, isF N n v r → q (some (.inl r)) h := fun r hr => by
    have y := isF_frs N v n.toNat
    rw [Int.toNat_of_nonneg n0] at y
    rw [isF_same hr y]; exact K
  have q0 := B.f0
  have L : ∀ (c : Nat) (i : Int), i + c = n → 0 ≤ i → (∀ j, 0 ≤ j → j < i → N j ≠ v) → Wp (d + 1) 0 0 M_X1_idOf 2 [some (.inr (.inr a)), some (.inl v), some (.inl i)] [] h q := by
    intro c
    induction c with
    | zero =>
      intro i hi i0 nn
      refine p_iload 3 rfl rfl rfl ?_
      refine p_aload 4 rfl rfl rfl ?_
      refine p_getfi (j := 0) (z := gv h a 0) 7 rfl rfl rfl B.tag rfl rfl ?_
      refine p_ic_ge_t 28 rfl rfl (by omega) ?_
      refine p_const 29 rfl rfl ?_
      refine p_iret rfl rfl ?_
      -- leaf 1: answer [.inl (-1)] h=h 
      exact fr _ (Or.inr ⟨rfl, fun j j0 j1 => nn j j0 (by omega)⟩)
    | succ c ih =>
      intro i hi i0 nn
      have e1 := hN i i0 (by omega)
      refine p_iload 3 rfl rfl rfl ?_
      refine p_aload 4 rfl rfl rfl ?_
      refine p_getfi (j := 0) (z := gv h a 0) 7 rfl rfl rfl B.tag rfl rfl ?_
      refine p_ic_ge_f 10 rfl rfl (by omega) ?_
      refine p_aload 11 rfl rfl rfl ?_
      refine p_getfr (j := 1) (z := a + 1) 14 rfl rfl rfl B.tag rfl B.f1 ?_
      refine p_iload 15 rfl rfl rfl ?_
      refine p_iald (w := n) (z := (N i)) 16 rfl rfl (B.t1) (B.l1) (by omega) (by omega) e1 ?_
      refine p_iload 17 rfl rfl rfl ?_
      refine p_ic_ne 20 22 rfl rfl rfl (fun c1 => ?_) (fun c1 => ?_)
      · skip
        refine p_iinc (y := i + 1) (ls' := [some (.inr (.inr a)), some (.inl v), some (.inl (i + 1))]) 25 rfl rfl rfl (w32_id ⟨(by omega), (by omega)⟩) rfl ?_
        refine p_goto 2 rfl rfl ?_
        -- leaf 1: loop 2 [some (.inr (.inr a)), some (.inl v), some (.inl (i + 1))] st=[] h=h 
        exact ih (i + 1) (by omega) (by omega) (fun j j0 j1 => by
          by_cases y : j = i
          · rw [y]; exact c1
          · exact nn j j0 (by omega))
      · skip
        refine p_iload 21 rfl rfl rfl ?_
        refine p_iret rfl rfl ?_
        -- leaf 2: answer [.inl i] h=h 
        exact fr _ (Or.inl ⟨i0, by omega, by omega, nn⟩)
  refine p_const 1 rfl rfl ?_
  refine p_istore (ls' := [some (.inr (.inr a)), some (.inl v), some (.inl 0)]) 2 rfl rfl (Nat.le_of_ble_eq_true rfl) rfl ?_
  -- leaf 1: loop 2 [some (.inr (.inr a)), some (.inl v), some (.inl 0)] st=[] h=h 
  exact L n.toNat 0 (by omega) (by omega) (fun j j0 j1 => by omega)
/-- the first sense of book k with the i-th name of the message -/
def ids (h : PH) (k i : Int) : Int := frs (nm h k) (gv h 64 i) (gv h 79 k).toNat
def MI (h : PH) : Prop := (0 ≤ gv h 2 10 ∧ gv h 2 10 ≤ 12) ∧ gv h 66 59 = gv h 2 10 ∧ ∀ i, 0 ≤ i → i < gv h 2 10 → gv h 107 i = gv h 64 i
def adOk (h : PH) (k : Int) : Prop := 1 ≤ gv h 2 10 ∧ ∀ i, 0 ≤ i → i < gv h 2 10 → ids h k i ≠ -1
theorem frs_in (f : Int → Int) (v : Int) (n : Nat) : -1 ≤ frs f v n ∧ frs f v n < n := by
  rcases isF_frs f v n with ⟨a, b, _⟩ | ⟨a, _⟩ <;> omega
def amA (a i : Int) : Bool := decide ((a = 32 ∧ i = 3) ∨ a = 33)
theorem amA_bkB : ∀ a i, bkB a i = false → amA a i = false := fun a i => dw (by omega)
theorem amA_b : ∀ a i, (128 : Int) ≤ a → amA a i = false := fun a i h => decide_eq_false (by omega)
def AdX (h : PH) (k r : Int) (h' : PH) : Prop := (r = 1 ∧ adOk h k ∧ gv h' 32 3 = gv h 2 10 ∧ ∀ i, 0 ≤ i → i < gv h 2 10 → gv h' 33 i = ids h k i) ∨ (r = 0 ∧ ¬ adOk h k)
theorem x_address {d : Nat} {h : PH} {q : PQ} (S : Shape h) (a : Int) {k : Int} (R : BkR h a k) (M : MI h) (K : ∀ r h', (Keep amA h h' ∧ AdX h k r h') → Shape h' → q (some (.inl r)) h') :
    Wp (d + 3) 0 0 M_X11_addressMessage 0 [some (.inr (.inr 2)), some (.inr (.inr a)), none, none] [] h q := by
  obtain ⟨⟨M0, M1⟩, _, _⟩ := M
  obtain ⟨m0, m40, pl, pl0, pl7, Bk, I⟩ := R
  have L : ∀ (c : Nat) (i : Int) (w : Option PV) (h1 : PH), i + c = gv h 2 10 → 0 ≤ i → Shape h1 → Keep amA h h1 → gv h1 32 3 = i → (∀ j, 0 ≤ j → j < i → gv h1 33 j = ids h k j ∧ ids h k j ≠ -1) →
      Wp (d + 3) 0 0 M_X11_addressMessage 9 [some (.inr (.inr 2)), some (.inr (.inr a)), some (.inl i), w] [] h1 q := by
    intro c
    induction c with
    | zero =>
      intro i w h1 hi i0 S1 kp b3 al
      have c10 : gv h1 2 10 = gv h 2 10 := kp.1 2 10 rfl
      refine p_iload 10 rfl rfl rfl ?_
      refine p_aload 11 rfl rfl rfl ?_
      refine p_getfi (j := 10) (z := (gv h 2 10)) 14 rfl rfl rfl (tg_2 S1) rfl c10 ?_
      refine p_ic_ge_t 55 rfl rfl (by omega) ?_
      refine p_aload 56 rfl rfl rfl ?_
      refine p_getfi (j := 10) (z := (gv h 2 10)) 59 rfl rfl rfl (tg_2 S1) rfl c10 ?_
      refine p_if_le 62 66 rfl rfl rfl (fun c1 => ?_) (fun c1 => ?_)
      · skip
        refine p_const 67 rfl rfl ?_
        refine p_zret rfl rfl (by decide) ?_
        -- leaf 1: answer [.inl 0] h=h1 
        exact K 0 h1 ⟨kp, Or.inr ⟨rfl, fun y => by have := y.1; omega⟩⟩ S1
      · skip
        refine p_const 63 rfl rfl ?_
        refine p_goto 67 rfl rfl ?_
        refine p_zret rfl rfl (by decide) ?_
        -- leaf 2: answer [.inl 1] h=h1 
        exact K 1 h1 ⟨kp, Or.inl ⟨rfl, ⟨by omega, fun j j0 j1 => (al j j0 (by omega)).2⟩, by omega, fun j j0 j1 => (al j j0 (by omega)).1⟩⟩ S1
    | succ c ih =>
      intro i w h1 hi i0 S1 kp b3 al
      have c10 : gv h1 2 10 = gv h 2 10 := kp.1 2 10 rfl
      have c64 : gv h1 64 i = gv h 64 i := kp.1 64 i rfl
      have Bk1 := Bk.kp kp amA_b
      refine p_iload 10 rfl rfl rfl ?_
      refine p_aload 11 rfl rfl rfl ?_
      refine p_getfi (j := 10) (z := (gv h 2 10)) 14 rfl rfl rfl (tg_2 S1) rfl c10 ?_
      refine p_ic_ge_f 17 rfl rfl (by omega) ?_
      refine p_iload 18 rfl rfl rfl ?_
      refine p_const 20 rfl rfl ?_
      refine p_ic_ge_f 23 rfl rfl (by omega) ?_
      refine p_aload 24 rfl rfl rfl ?_
      refine p_aload 25 rfl rfl rfl ?_
      refine p_getfr (j := 9) (z := 64) 28 rfl rfl rfl (tg_2 S1) rfl (fi_2_9 S1) ?_
      refine p_iload 29 rfl rfl rfl ?_
      refine p_iald (w := 12) (z := (gv h 64 i)) 30 rfl rfl (tg_64 S1) (ln_64 S1) (by omega) (by omega) c64 ?_
      refine p_callv (le := [some (.inr (.inr a)), some (.inl (gv h 64 i)), none]) (as := [.inr (.inr a), .inl (gv h 64 i)]) (rest := []) 33 0 0 0 0 rfl rfl (Nat.le_of_ble_eq_true rfl) rfl (Nat.le_of_ble_eq_true rfl) rfl rfl (Nat.le_of_ble_eq_true rfl) rfl (Nat.le_of_ble_eq_true rfl) rfl (Nat.le_refl _) (Nat.le_refl _) rfl rfl Bk1.tag ?_
      refine x_idOf S1 a (gv h 64 i) (N := nm h k) Bk1 m0 m40 (fun j j0 j1 => (kp.1 _ _ (amA_b _ _ (by have := Bk.ge; omega))).trans (I j j0 j1).1.1) ?_
      show Wp (d + 3) 0 0 M_X11_addressMessage 33 [some (.inr (.inr 2)), some (.inr (.inr a)), some (.inl i), w] [.inl (ids h k i)] h1 _
      refine p_istore (ls' := [some (.inr (.inr 2)), some (.inr (.inr a)), some (.inl i), some (.inl (ids h k i))]) 34 rfl rfl (Nat.le_of_ble_eq_true rfl) rfl ?_
      refine p_iload 35 rfl rfl rfl ?_
      refine p_const 36 rfl rfl ?_
      refine p_ic_ne 39 41 rfl rfl rfl (fun c2 => ?_) (fun c2 => ?_)
      · skip
        refine p_aload 42 rfl rfl rfl ?_
        refine p_getfr (j := 5) (z := 32) 45 rfl rfl rfl (tg_2 S1) rfl (fi_2_5 S1) ?_
        refine p_iload 46 rfl rfl rfl ?_
        refine p_callv (le := [some (.inr (.inr 32)), some (.inl (ids h k i))]) (as := [.inr (.inr 32), .inl (ids h k i)]) (rest := []) 49 0 0 0 0 rfl rfl (Nat.le_of_ble_eq_true rfl) rfl (Nat.le_of_ble_eq_true rfl) rfl rfl (Nat.le_of_ble_eq_true rfl) rfl (Nat.le_of_ble_eq_true rfl) rfl (Nat.le_refl _) (Nat.le_refl _) rfl rfl (tg_32 S1) ?_
        refine p_aload 1 rfl rfl rfl ?_
        refine p_getfi (j := 3) (z := i) 4 rfl rfl rfl (tg_32 S1) rfl b3 ?_
        refine p_aload 5 rfl rfl rfl ?_
        refine p_getfr (j := 2) (z := 33) 8 rfl rfl rfl (tg_32 S1) rfl (fi_32_2 S1) ?_
        refine p_alen (w := 12) 9 rfl rfl (by rw [(tg_33 S1)]; decide) (ln_33 S1) ?_
        refine p_ic_ge_f 12 rfl rfl (by omega) ?_
        refine p_aload 13 rfl rfl rfl ?_
        refine p_getfr (j := 2) (z := 33) 16 rfl rfl rfl (tg_32 S1) rfl (fi_32_2 S1) ?_
        refine p_aload 17 rfl rfl rfl ?_
        refine p_getfi (j := 3) (z := i) 20 rfl rfl rfl (tg_32 S1) rfl b3 ?_
        refine p_iload 21 rfl rfl rfl ?_
        refine p_iast (w := 12) 22 rfl rfl (by decide) (tg_33 S1) (ln_33 S1) (by omega) (by omega) ?_
        refine p_nmh (fun y3 e3 => ?_)
        have S3 : Shape y3 := by rw [e3]; exact S1.svA fa_33 _ _
        refine p_aload 23 rfl rfl rfl ?_
        refine p_dup 24 rfl rfl nl_r ?_
        refine p_getfi (j := 3) (z := i) 27 rfl rfl rfl (tg_32 S3) rfl (by rw [e3, sv_ne (by decide)]; exact b3) ?_
        refine p_const 28 rfl rfl ?_
        refine p_iadd (z := i + 1) 29 rfl rfl (w32_id ⟨(by omega), (by omega)⟩) ?_
        refine p_putfi (j := 3) 32 rfl rfl rfl (fun z => absurd z (by decide)) (tg_32 S3) rfl ?_
        refine p_nmh (fun y4 e4 => ?_)
        have S4 : Shape y4 := by rw [e4]; exact S3.svF ff_32_3 _
        refine p_ret rfl rfl ?_
        show Wp (d + 3) 0 0 M_X11_addressMessage 49 [some (.inr (.inr 2)), some (.inr (.inr a)), some (.inl i), some (.inl (ids h k i))] [] y4 _
        refine p_iinc (y := i + 1) (ls' := [some (.inr (.inr 2)), some (.inr (.inr a)), some (.inl (i + 1)), some (.inl (ids h k i))]) 52 rfl rfl rfl (w32_id ⟨(by omega), (by omega)⟩) rfl ?_
        refine p_goto 9 rfl rfl ?_
        -- leaf 1: loop 9 [some (.inr (.inr 2)), some (.inr (.inr a)), some (.inl (i + 1)), some (.inl (ids h k i))] st=[] h=y4 e4,e3
        refine ih (i + 1) _ _ (by omega) (by omega) S4 (by rw [e4, e3]; exact (kp.sv rfl _).sv rfl _) (by rw [e4, e3, sv_eq]) (fun j j0 j1 => ?_)
        by_cases y : j = i
        · refine ⟨by rw [e4, e3, sv_ne (by decide), y, sv_eq], by rw [y]; assumption⟩
        · rw [e4, e3, sv_ne (by decide), sv_nf y]; exact al j j0 (by omega)
      · skip
        refine p_const 40 rfl rfl ?_
        refine p_zret rfl rfl (by decide) ?_
        -- leaf 2: answer [.inl 0] h=h1 
        exact K 0 h1 ⟨kp, Or.inr ⟨rfl, fun y => y.2 i i0 (by omega) (by omega)⟩⟩ S1
  refine p_aload 1 rfl rfl rfl ?_
  refine p_getfr (j := 5) (z := 32) 4 rfl rfl rfl (tg_2 S) rfl (fi_2_5 S) ?_
  refine p_callv (le := [some (.inr (.inr 32))]) (as := [.inr (.inr 32)]) (rest := []) 7 0 0 0 0 rfl rfl (Nat.le_of_ble_eq_true rfl) rfl (Nat.le_of_ble_eq_true rfl) rfl rfl (Nat.le_of_ble_eq_true rfl) rfl (Nat.le_of_ble_eq_true rfl) rfl (Nat.le_refl _) (Nat.le_refl _) rfl rfl (tg_32 S) ?_
  refine p_aload 1 rfl rfl rfl ?_
  refine p_const 2 rfl rfl ?_
  refine p_putfi (j := 3) 5 rfl rfl rfl (fun z => absurd z (by decide)) (tg_32 S) rfl ?_
  refine p_nmh (fun y1 e1 => ?_)
  have S1 : Shape y1 := by rw [e1]; exact S.svF ff_32_3 _
  refine p_ret rfl rfl ?_
  show Wp (d + 3) 0 0 M_X11_addressMessage 7 [some (.inr (.inr 2)), some (.inr (.inr a)), none, none] [] y1 _
  refine p_const 8 rfl rfl ?_
  refine p_istore (ls' := [some (.inr (.inr 2)), some (.inr (.inr a)), some (.inl 0), none]) 9 rfl rfl (Nat.le_of_ble_eq_true rfl) rfl ?_
  -- leaf 1: loop 9 [some (.inr (.inr 2)), some (.inr (.inr a)), some (.inl 0), none] st=[] h=y1 e1
  exact L (gv h 2 10).toNat 0 _ _ (by omega) (by omega) S1 (by rw [e1]; exact (Keep.rf _ _).sv rfl _) (by rw [e1, sv_eq]) (fun j j0 j1 => by omega)
theorem cxl_ids {hold idf cds ids ids' : Int → Int} {g g' : Int → Int → Int → List (Int × Int × Int)} {i row used : Int} (e : ids i = ids' i) (hg : ∀ r u, g (i + 1) r u = g' (i + 1) r u) : ∀ (c : Nat) (j : Int), cxl hold idf cds ids g i row used c j = cxl hold idf cds ids' g' i row used c j
  | 0, _ => rfl
  | c + 1, j => by
    unfold cxl
    rw [cxl_ids e hg c (j + 1), e, hg]
theorem cx_ids {hold idf cds ids ids' : Int → Int} {m : Nat} {n : Int} (e : ∀ i, 0 ≤ i → i < n → ids i = ids' i) : ∀ (f : Nat) (i row used : Int), 0 ≤ i → cx hold idf cds ids m n f i row used = cx hold idf cds ids' m n f i row used
  | 0, _, _, _, _ => rfl
  | f + 1, i, row, used, i0 => by
    show (if i < n then _ else []) = (if i < n then _ else [])
    by_cases z : i < n
    · rw [if_pos z, if_pos z]
      exact cxl_ids (e i i0 z) (fun r u => cx_ids e f (i + 1) r u (by omega)) m 0
    · rw [if_neg z, if_neg z]
theorem bst_cnd {hst : Int → Int} {pln : Int → Prop} {cnd cnd' : Int → List (Int × Int × Int)} {n : Int} (e : ∀ i, 0 ≤ i → cnd i = cnd' i) : ∀ m : Nat, (m : Int) ≤ n → bst hst pln cnd n m = bst hst pln cnd' n m
  | 0, _ => rfl
  | m + 1, h => by
    have ih : bst hst pln cnd n m = bst hst pln cnd' n m := bst_cnd e m (by omega)
    funext i
    show (if i = n - (m + 1) then _ else _) = (if i = n - (m + 1) then _ else _)
    rw [ih, e (n - ((m : Int) + 1)) (by omega)]
theorem bstF_ids {h : PH} {k s t z n : Int} {ids ids' : Int → Int} (e : ∀ i, 0 ≤ i → i < n → ids i = ids' i) (m : Nat) (hm : (m : Int) ≤ n) : bstF h k s t z ids n m = bstF h k s t z ids' n m :=
  bst_cnd (fun i i0 => cx_ids e 4 i 0 0 i0) m hm
/-! send -/
/-- the best ways for the message -/
noncomputable def sB (h : PH) (s t : Int) : Int → Q4t := bstF h (kb h) s t (zh h t) (ids h (kb h)) (gv h 2 10) (gv h 2 10).toNat
noncomputable def sH (h : PH) (s t : Int) : List Int := pth (sB h s t) (gv h 2 10) (gv h 2 10).toNat 0
abbrev argS (h : PH) (s t : Int) : Prop := kb h ≠ 0 ∧ (0 ≤ s ∧ s < 10) ∧ (0 ≤ t ∧ t < 1000) ∧ adOk h (kb h)
def sOk (h : PH) (s t : Int) : Prop := argS h s t ∧ (sB h s t 0).1 < 1000
def SendX (h : PH) (s t r : Int) (h' : PH) : Prop := (¬ sOk h s t ∧ r = -1 ∧ gv h' 2 12 = gv h 2 12 ∧ ∀ i, gv h' 65 i = gv h 65 i) ∨ (sOk h s t ∧ r = (sB h s t 0).1 ∧ gv h' 2 12 = r ∧ ∀ (j : Nat) w, (sH h s t)[j]? = some w → gv h' 65 j = w)
def c65 (a _i : Int) : Bool := decide (a = 65)
def sxA (a i : Int) : Bool := decide ((24 ≤ a ∧ a ≤ 37) ∨ (a = 2 ∧ i = 12) ∨ a = 65)
theorem c65_sxA : ∀ a i, sxA a i = false → c65 a i = false := fun a i => dw (by omega)
theorem amA_sxA : ∀ a i, sxA a i = false → amA a i = false := fun a i => dw (by omega)
theorem plA_sxA : ∀ a i, sxA a i = false → plA a i = false := fun a i => dw (by omega)
theorem sxA_bkB : ∀ a i, bkB a i = false → sxA a i = false := fun a i => dw (by omega)
theorem MI.kp {h h' : PH} (M : MI h) (e : ∀ a i, (a = 2 ∧ i = 10) ∨ (a = 66 ∧ i = 59) ∨ a = 107 ∨ a = 64 → gv h' a i = gv h a i) : MI h' := by
  unfold MI
  rw [e 2 10 (by omega), e 66 59 (by omega)]
  exact ⟨M.1, M.2.1, fun i i0 i1 => by rw [e 107 i (by omega), e 64 i (by omega)]; exact M.2.2 i i0 i1⟩
theorem ids_kp {h h' : PH} (K : Keep bkB h h') (e : ∀ i, gv h' 64 i = gv h 64 i) (k : Int) : ids h' k = ids h k := by
  funext i
  obtain ⟨e1, _, _, _, _, e6⟩ := bk_congr K k
  unfold ids
  rw [e1, e6, e]
theorem x_send {d : Nat} {h : PH} {q : PQ} (S : Shape h) (A : AI h) (F : FI h) (M : MI h) (s t : Int) (K : ∀ r h', (Keep sxA h h' ∧ SendX h s t r h') → Shape h' → q (some (.inl r)) h') :
    Wp (d + 17) 0 0 M_X11_send 0 [some (.inr (.inr 2)), some (.inl s), some (.inl t), none, none] [] h q := by
  have A0 := A
  have kb0 := A.kb
  obtain ⟨⟨M0, M1⟩, _, _⟩ := id M
  have no : ∀ h', ¬ sOk h s t → Keep sxA h h' → (∀ a i, a = 2 ∨ a = 65 → gv h' a i = gv h a i) → Keep sxA h h' ∧ SendX h s t (-1) h' := fun h' n k e => ⟨k, Or.inl ⟨n, rfl, e 2 12 (by omega), fun i => e 65 i (by omega)⟩⟩
  refine p_aload 1 rfl rfl rfl ?_
  refine p_callv (le := [some (.inr (.inr 2))]) (as := [.inr (.inr 2)]) (rest := []) 4 0 0 0 0 rfl rfl (Nat.le_of_ble_eq_true rfl) rfl (Nat.le_of_ble_eq_true rfl) rfl rfl (Nat.le_of_ble_eq_true rfl) rfl (Nat.le_of_ble_eq_true rfl) rfl (Nat.le_refl _) (Nat.le_refl _) rfl rfl (tg_2 S) ?_
  refine x_knownBook S  (A0) ?_
  show Wp (d + 17) 0 0 M_X11_send 4 [some (.inr (.inr 2)), some (.inl s), some (.inl t), none, none] [.inr (.inr (xb h))] h _
  refine p_astore (ls' := [some (.inr (.inr 2)), some (.inl s), some (.inl t), some (.inr (.inr (xb h))), none]) 5 rfl rfl (Nat.le_of_ble_eq_true rfl) rfl ?_
  refine p_aload 6 rfl rfl rfl ?_
  refine p_ifnull 9 31 rfl rfl rfl (fun c2 => ?_) (fun c2 => ?_)
  · skip
    refine p_const 32 rfl rfl ?_
    refine p_iret rfl rfl ?_
    -- leaf 1: answer [.inl (-1)] h=h 
    refine K _ _ (no _ (fun y => ?_) (Keep.rf _ _) (fun _ _ _ => rfl)) S
    have y1 := y.1.1
    rcases kb0 with w | w <;> omega
  · skip
    refine p_iload 10 rfl rfl rfl ?_
    refine p_calls (le := [some (.inl s)]) (as := [.inl s]) (rest := []) 13 0 0 0 0 rfl rfl (Nat.le_of_ble_eq_true rfl) rfl (Nat.le_of_ble_eq_true rfl) rfl rfl (Nat.le_of_ble_eq_true rfl) rfl (Nat.le_of_ble_eq_true rfl) rfl (Nat.le_refl _) (Nat.le_refl _) rfl rfl ?_
    refine x_isShip S s  (fun c3 => ?_) (fun c3 => ?_)
    · show Wp (d + 17) 0 0 M_X11_send 13 [some (.inr (.inr 2)), some (.inl s), some (.inl t), some (.inr (.inr (xb h))), none] [.inl 1] h _
      refine p_if_eq_f 16 rfl rfl (by decide) ?_
      refine p_iload 17 rfl rfl rfl ?_
      refine p_calls (le := [some (.inl t)]) (as := [.inl t]) (rest := []) 20 0 0 0 0 rfl rfl (Nat.le_of_ble_eq_true rfl) rfl (Nat.le_of_ble_eq_true rfl) rfl rfl (Nat.le_of_ble_eq_true rfl) rfl (Nat.le_of_ble_eq_true rfl) rfl (Nat.le_refl _) (Nat.le_refl _) rfl rfl ?_
      refine x_isMinute S t  (fun c4 => ?_) (fun c4 => ?_)
      · show Wp (d + 17) 0 0 M_X11_send 20 [some (.inr (.inr 2)), some (.inl s), some (.inl t), some (.inr (.inr (xb h))), none] [.inl 1] h _
        refine p_if_eq_f 23 rfl rfl (by decide) ?_
        have R : BkR h (xb h) (kb h) := by rcases kb0 with w | w; exact absurd w.2 c2; exact w.2.2.2
        have kb1 : kb h ≠ 0 := by rcases kb0 with w | w; exact absurd w.2 c2; omega
        refine p_aload 24 rfl rfl rfl ?_
        refine p_aload 25 rfl rfl rfl ?_
        refine p_callv (le := [some (.inr (.inr 2)), some (.inr (.inr (xb h))), none, none]) (as := [.inr (.inr 2), .inr (.inr (xb h))]) (rest := []) 28 0 0 0 0 rfl rfl (Nat.le_of_ble_eq_true rfl) rfl (Nat.le_of_ble_eq_true rfl) rfl rfl (Nat.le_of_ble_eq_true rfl) rfl (Nat.le_of_ble_eq_true rfl) rfl (Nat.le_refl _) (Nat.le_refl _) rfl rfl (tg_2 S) ?_
        refine x_address S (xb h) R M (fun r5 y5 p5 S5 => ?_)
        have kp5 : Keep sxA h y5 := (p5.1.wide amA_sxA)
        show Wp (d + 17) 0 0 M_X11_send 28 [some (.inr (.inr 2)), some (.inl s), some (.inl t), some (.inr (.inr (xb h))), none] [.inl r5] y5 _
        refine p_if_ne 31 33 rfl rfl rfl (fun c6 => ?_) (fun c6 => ?_)
        · skip
          have kB := kp5.wide sxA_bkB
          have q5 : adOk h (kb h) ∧ gv y5 32 3 = gv h 2 10 ∧ ∀ i, 0 ≤ i → i < gv h 2 10 → gv y5 33 i = ids h (kb h) i := by rcases p5.2 with w | w; exact w.2; exact absurd w.1 c6
          obtain ⟨hok, hn, hids⟩ := q5
          have hn1 := hok.1
          refine p_aload 34 rfl rfl rfl ?_
          refine p_getfr (j := 5) (z := 32) 37 rfl rfl rfl (tg_2 S5) rfl (fi_2_5 S5) ?_
          refine p_aload 38 rfl rfl rfl ?_
          refine p_iload 39 rfl rfl rfl ?_
          refine p_iload 40 rfl rfl rfl ?_
          refine p_callv (le := [some (.inr (.inr 32)), some (.inr (.inr (xb h))), some (.inl s), some (.inl t), none]) (as := [.inr (.inr 32), .inr (.inr (xb h)), .inl s, .inl t]) (rest := []) 43 0 0 0 0 rfl rfl (Nat.le_of_ble_eq_true rfl) rfl (Nat.le_of_ble_eq_true rfl) rfl rfl (Nat.le_of_ble_eq_true rfl) rfl (Nat.le_of_ble_eq_true rfl) rfl (Nat.le_refl _) (Nat.le_refl _) rfl rfl (tg_32 S5) ?_
          refine x_plan S5 (xb h) s t (R.kp kB) (F.kp kB) c3 c4 hn (by omega) (by omega) (fun r7 y7 p7 S7 => ?_)
          have kp7 : Keep sxA h y7 := kp5.trans (p7.1.wide plA_sxA)
          show Wp (d + 17) 0 0 M_X11_send 43 [some (.inr (.inr 2)), some (.inl s), some (.inl t), some (.inr (.inr (xb h))), none] [.inl r7] y7 _
          refine p_istore (ls' := [some (.inr (.inr 2)), some (.inl s), some (.inl t), some (.inr (.inr (xb h))), some (.inl r7)]) 45 rfl rfl (Nat.le_of_ble_eq_true rfl) rfl ?_
          have EB : bstF y5 (kb h) s t (zh y5 t) (fun i => gv y5 33 i) (gv h 2 10) (gv h 2 10).toNat = sB h s t := by
            rw [zh_congr kB, bstF_congr kB]; exact bstF_ids hids _ (by omega)
          obtain ⟨k7, ce, er⟩ := p7
          rw [EB] at ce er
          have ok : ∀ i, 0 ≤ i → i ≤ gv h 2 10 → bOk (hstF h s) (plnF h (kb h) s t (zh h t)) (gv h 2 10) (sB h s t) i := fun i i0 i1 => R.bok (gv h 2 10).toNat i (by omega) i1
          refine p_iload 47 rfl rfl rfl ?_
          refine p_const 48 rfl rfl ?_
          refine p_ic_ne 51 53 rfl rfl rfl (fun c8 => ?_) (fun c8 => ?_)
          · skip
            have hn2 : gv y7 32 3 = gv h 2 10 := (k7.1 32 3 rfl).trans hn
            have b0 : (sB h s t 0).1 < 1000 := by by_cases w : (sB h s t 0).1 < 1000; exact w; rw [if_neg w] at er; exact absurd er c8
            have b12 : (sB h s t 0).1 ≤ 12 := by rcases ok 0 (Int.le_refl 0) (by omega) with w | ⟨w, _⟩ <;> omega
            rw [if_pos b0] at er
            refine p_aload 54 rfl rfl rfl ?_
            refine p_aload 55 rfl rfl rfl ?_
            refine p_getfr (j := 5) (z := 32) 58 rfl rfl rfl (tg_2 S7) rfl (fi_2_5 S7) ?_
            refine p_aload 59 rfl rfl rfl ?_
            refine p_getfr (j := 11) (z := 65) 62 rfl rfl rfl (tg_2 S7) rfl (fi_2_11 S7) ?_
            refine p_const 63 rfl rfl ?_
            refine p_callv (le := [some (.inr (.inr 32)), some (.inr (.inr 65)), some (.inl 0), none, none, none]) (as := [.inr (.inr 32), .inr (.inr 65), .inl 0]) (rest := [.inr (.inr 2)]) 66 0 0 0 0 rfl rfl (Nat.le_of_ble_eq_true rfl) rfl (Nat.le_of_ble_eq_true rfl) rfl rfl (Nat.le_of_ble_eq_true rfl) rfl (Nat.le_of_ble_eq_true rfl) rfl (Nat.le_refl _) (Nat.le_refl _) rfl rfl (tg_32 S7) ?_
            refine x_copy S7 65 0 (fun h S i v => S.svA fa_65 i v) (by decide) (tg_65 S7) (ln_65 S7) (by decide) ok hn2 (by omega) (by omega) ce b0 (by decide) (by omega) (fun r9 y9 p9 S9 => ?_)
            have kp9 : Keep sxA h y9 := kp7.trans (p9.1.wide c65_sxA)
            show Wp (d + 17) 0 0 M_X11_send 66 [some (.inr (.inr 2)), some (.inl s), some (.inl t), some (.inr (.inr (xb h))), some (.inl r7)] [.inl r9, .inr (.inr 2)] y9 _
            refine p_putfi (j := 12) 69 rfl rfl rfl (fun z => absurd z (by decide)) (tg_2 S9) rfl ?_
            refine p_nmh (fun y10 e10 => ?_)
            have S10 : Shape y10 := by rw [e10]; exact S9.svF ff_2_12 _
            have kp10 : Keep sxA h y10 := by rw [e10]; exact kp9.sv rfl _
            refine p_iload 71 rfl rfl rfl ?_
            refine p_iret rfl rfl ?_
            -- leaf 2: answer [.inl r7] h=y10 e10 kp10
            obtain ⟨k9, er9, o9, w9⟩ := p9
            refine K _ _ ⟨kp10, Or.inr ⟨⟨⟨kb1, c3, c4, hok⟩, b0⟩, er, ?_, fun j w hj => ?_⟩⟩ S10
            · rw [e10, sv_eq]; omega
            · rw [e10, sv_ne (by decide)]; have y := w9 j w hj; rw [Int.zero_add] at y; exact y
          · skip
            refine p_const 52 rfl rfl ?_
            refine p_iret rfl rfl ?_
            -- leaf 3: answer [.inl (-1)] h=y7  kp7
            refine K _ _ (no _ (fun y => ?_) kp7 (fun a i e => ?_)) S7
            · rw [if_pos y.2] at er
              rcases ok 0 (Int.le_refl 0) (by omega) with w | ⟨w, _⟩ <;> (have := y.2; omega)
            · rw [k7.1 a i (decide_eq_false (by omega)), p5.1.1 a i (decide_eq_false (by omega))]
        · skip
          refine p_const 32 rfl rfl ?_
          refine p_iret rfl rfl ?_
          -- leaf 4: answer [.inl (-1)] h=y5  kp5
          refine K _ _ (no _ (fun y => ?_) kp5 (fun a i e => p5.1.1 a i (decide_eq_false (by omega)))) S5
          rcases p5.2 with w | w
          · omega
          · exact w.2 y.1.2.2.2
      · show Wp (d + 17) 0 0 M_X11_send 20 [some (.inr (.inr 2)), some (.inl s), some (.inl t), some (.inr (.inr (xb h))), none] [.inl 0] h _
        refine p_if_eq_t 31 rfl rfl (by decide) ?_
        refine p_const 32 rfl rfl ?_
        refine p_iret rfl rfl ?_
        -- leaf 5: answer [.inl (-1)] h=h 
        exact K _ _ (no _ (fun y => c4 y.1.2.2.1) (Keep.rf _ _) (fun _ _ _ => rfl)) S
    · show Wp (d + 17) 0 0 M_X11_send 13 [some (.inr (.inr 2)), some (.inl s), some (.inl t), some (.inr (.inr (xb h))), none] [.inl 0] h _
      refine p_if_eq_t 31 rfl rfl (by decide) ?_
      refine p_const 32 rfl rfl ?_
      refine p_iret rfl rfl ?_
      -- leaf 6: answer [.inl (-1)] h=h 
      exact K _ _ (no _ (fun y => c3 y.1.2.1) (Keep.rf _ _) (fun _ _ _ => rfl)) S

