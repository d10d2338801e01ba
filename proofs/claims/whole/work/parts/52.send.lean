/-! SEND, class's side: plan and the hoists of it -/
/-- what planning rests on: which hoist, what is plain, which parts -/
noncomputable abbrev hstF (h : PH) (s : Int) : Int → Int := fun v => hoF v (gv h 86 s) (gv h 87 s)
abbrev plnF (h : PH) (k s t z : Int) : Int → Prop := fun v => ∃ l, only (Rd (Ws h k s t z) v) l
abbrev cndF (h : PH) (k s t z : Int) (ids : Int → Int) (n : Int) : Int → List (Int × Int × Int) := fun i => cx (fun j => tv h k s t z j) (fun j => fi h k j) (fun j => cd h k j) ids (gv h 79 k).toNat n 4 i 0 0
noncomputable abbrev bstF (h : PH) (k s t z : Int) (ids : Int → Int) (n : Int) : Nat → Int → Q4t := bst (hstF h s) (plnF h k s t z) (cndF h k s t z ids n) n
theorem cndF_congr {h h' : PH} (K : Keep bkB h h') (k s t z : Int) (ids : Int → Int) (n : Int) : cndF h' k s t z ids n = cndF h k s t z ids n := by
  obtain ⟨_, e2, _, _, _, e6⟩ := bk_congr K k
  unfold cndF
  rw [show (fun j => tv h' k s t z j) = (fun j => tv h k s t z j) from funext fun j => tv_congr K _ _ _ _ _, show (fun j => fi h' k j) = (fun j => fi h k j) from funext fun j => fi_congr K _ _, show (fun j => cd h' k j) = (fun j => cd h k j) by rw [e2], e6]
theorem bstF_congr {h h' : PH} (K : Keep bkB h h') (k s t z : Int) (ids : Int → Int) (n : Int) : bstF h' k s t z ids n = bstF h k s t z ids n := by
  unfold bstF
  rw [cndF_congr K, show hstF h' s = hstF h s by unfold hstF; rw [K.1 86 s rfl, K.1 87 s rfl], show plnF h' k s t z = plnF h k s t z by unfold plnF; rw [Ws_congr K]]
theorem BkR.cds {h : PH} {a k : Int} (R : BkR h a k) : ∀ x : Int, 0 ≤ x → x < ((gv h 79 k).toNat : Int) → letters (cd h k x) := fun x x0 x1 => by
  obtain ⟨m0, m40, pl, pl0, pl7, Bk, I⟩ := R
  obtain ⟨_, ⟨_, g⟩, _⟩ := I x x0 (by omega)
  exact g
theorem BkR.cnd {h : PH} {a k s t z n : Int} {ids : Int → Int} (R : BkR h a k) : ∀ i x, x ∈ cndF h k s t z ids n i → (i < x.1 ∧ x.1 ≤ n) ∧ letters x.2.1 ∧ rl x.2.1 = x.2.2 ∧ x.2.2 ≤ 4 := fun i x hx => cx_mem R.cds 4 i 0 0 (Or.inl ⟨rfl, rfl⟩) x hx
theorem BkR.bok {h : PH} {a k s t z n : Int} {ids : Int → Int} (R : BkR h a k) (m : Nat) (i : Int) (h0 : n - m ≤ i) (h1 : i ≤ n) : bOk (hstF h s) (plnF h k s t z) n (bstF h k s t z ids n m) i := bst_ok R.cnd m i h0 h1
theorem bstF_new {h : PH} {k s t z n i : Int} {ids : Int → Int} {M : Nat} (e : i = n - (M + 1)) : bstF h k s t z ids n (M + 1) i = List.foldl (stpF (fun j => (bstF h k s t z ids n M j).1) (fun j => (bstF h k s t z ids n M j).2.1) (hstF h s) (plnF h k s t z)) (1000, 0, 0, 0) (cndF h k s t z ids n i) := bst_new e
theorem bstF_old {h : PH} {k s t z n i : Int} {ids : Int → Int} {M : Nat} (e : n - M ≤ i) : bstF h k s t z ids n (M + 1) i = bstF h k s t z ids n M i := bst_old e
/-- the class's cells for name i -/
def PXn (h : PH) (n i : Int) (u : Q4t) : Prop := gv h 36 i = u.1 ∧ (u.1 < 1000 → gv h 37 i = u.2.1 ∧ (i < n → gv h 34 i = u.2.2.1 ∧ gv h 35 i = u.2.2.2))
theorem PXn.kp {h h' : PH} {n i : Int} {u : Q4t} (P : PXn h n i u) (e : ∀ a, 34 ≤ a → a ≤ 37 → gv h' a i = gv h a i) : PXn h' n i u := by
  unfold PXn
  rw [e 36 (by decide) (by decide), e 37 (by decide) (by decide), e 34 (by decide) (by decide), e 35 (by decide) (by decide)]
  exact P
def plA (a i : Int) : Bool := decide ((a = 24 ∧ (i = 2 ∨ i = 3 ∨ i = 4 ∨ i = 9 ∨ i = 10)) ∨ (25 ≤ a ∧ a ≤ 28) ∨ a = 30 ∨ a = 31 ∨ (a = 32 ∧ (i = 4 ∨ i = 5)) ∨ (34 ≤ a ∧ a ≤ 37))
theorem plA_bkB : ∀ a i, bkB a i = false → plA a i = false := fun a i => dw (by omega)
theorem plA_xA : ∀ a i, xA a i = false → plA a i = false := fun a i => dw (by omega)
theorem pA_plA : ∀ a i, plA a i = false → pA a i = false := fun a i => dw (by omega)
theorem sdA_plA (f : Int) : ∀ a i, plA a i = false → sdA f a i = false := fun a i => dw (by omega)
theorem x_plan {d : Nat} {h : PH} {q : PQ} (S : Shape h) (a s t : Int) {k n : Int} (R : BkR h a k) (F : FI h) (hs : 0 ≤ s ∧ s < 10) (ht : 0 ≤ t ∧ t < 1000) (hn : gv h 32 3 = n) (n1 : 1 ≤ n) (n12 : n ≤ 12)
    (K : ∀ r h', (Keep plA h h' ∧ (∀ i, 0 ≤ i → i ≤ n → PXn h' n i (bstF h k s t (zh h t) (fun i => gv h 33 i) n n.toNat i)) ∧ r = if (bstF h k s t (zh h t) (fun i => gv h 33 i) n n.toNat 0).1 < 1000 then (bstF h k s t (zh h t) (fun i => gv h 33 i) n n.toNat 0).1 else -1) → Shape h' → q (some (.inl r)) h') :
    Wp (d + 16) 0 0 M_X7_plan 0 [some (.inr (.inr 32)), some (.inr (.inr a)), some (.inl s), some (.inl t), none] [] h q := by
  have L : ∀ (m : Nat) (f : Int) (h1 : PH), f = m - 1 → m ≤ n → Shape h1 → Keep plA h h1 → Prep h1 a k s t (zh h t) → gv h1 32 4 = a → gv h1 32 5 = s → (∀ i, f < i → i ≤ n → PXn h1 n i (bstF h k s t (zh h t) (fun i => gv h 33 i) n (n - m).toNat i)) →
      Wp (d + 16) 0 0 M_X7_plan 48 [some (.inr (.inr 32)), some (.inr (.inr a)), some (.inl s), some (.inl t), some (.inl f)] [] h1 q := by
    intro m
    induction m with
    | zero =>
      intro f h1 hf mn S1 kp Pr b4 b5 ce
      have c3 : gv h1 32 3 = n := (kp.1 32 3 rfl).trans hn
      have e0 : n - ((0 : Nat) : Int) = n := by omega
      rw [e0] at ce
      have c0 := ce 0 (by omega) (by omega)
      have bo := R.bok (s := s) (t := t) (z := zh h t) (ids := fun i => gv h 33 i) (n := n) n.toNat 0 (by omega) (by omega)
      refine p_iload 50 rfl rfl rfl ?_
      refine p_if_lt_t 79 rfl rfl (by omega) ?_
      refine p_aload 80 rfl rfl rfl ?_
      refine p_getfi (j := 3) (z := n) 83 rfl rfl rfl (tg_32 S1) rfl c3 ?_
      refine p_if_le 86 107 rfl rfl rfl (fun c1 => ?_) (fun c1 => ?_)
      · skip
        refine p_const 108 rfl rfl ?_
        refine p_iret rfl rfl ?_
        -- leaf 1: answer [.inl (-1)] h=h1 
        exfalso; omega
      · skip
        refine p_aload 87 rfl rfl rfl ?_
        refine p_getfr (j := 8) (z := 36) 90 rfl rfl rfl (tg_32 S1) rfl (fi_32_8 S1) ?_
        refine p_const 91 rfl rfl ?_
        refine p_iald (w := 13) (z := gv h1 36 0) 92 rfl rfl (tg_36 S1) (ln_36 S1) (by decide) (by decide) rfl ?_
        refine p_const 95 rfl rfl ?_
        refine p_ic_ge 98 107 rfl rfl rfl (fun c2 => ?_) (fun c2 => ?_)
        · skip
          refine p_const 108 rfl rfl ?_
          refine p_iret rfl rfl ?_
          -- leaf 2: answer [.inl (-1)] h=h1 
          exact K _ h1 ⟨kp, fun i i0 i1 => ce i (by omega) i1, by rw [if_neg (by rw [← c0.1]; omega)]⟩ S1
        · skip
          refine p_aload 99 rfl rfl rfl ?_
          refine p_getfr (j := 8) (z := 36) 102 rfl rfl rfl (tg_32 S1) rfl (fi_32_8 S1) ?_
          refine p_const 103 rfl rfl ?_
          refine p_iald (w := 13) (z := gv h1 36 0) 104 rfl rfl (tg_36 S1) (ln_36 S1) (by decide) (by decide) rfl ?_
          refine p_goto 108 rfl rfl ?_
          refine p_iret rfl rfl ?_
          -- leaf 3: answer [.inl (gv h1 36 0)] h=h1 
          exact K _ h1 ⟨kp, fun i i0 i1 => ce i (by omega) i1, by rw [if_pos (by rw [← c0.1]; omega)]; exact c0.1⟩ S1
    | succ m ih =>
      intro f h1 hf mn S1 kp Pr b4 b5 ce
      have kB := kp.wide plA_bkB
      have c3 : gv h1 32 3 = n := (kp.1 32 3 rfl).trans hn
      refine p_iload 50 rfl rfl rfl ?_
      refine p_if_lt_f 53 rfl rfl (by omega) ?_
      refine p_aload 54 rfl rfl rfl ?_
      refine p_getfr (j := 8) (z := 36) 57 rfl rfl rfl (tg_32 S1) rfl (fi_32_8 S1) ?_
      refine p_iload 59 rfl rfl rfl ?_
      refine p_const 62 rfl rfl ?_
      refine p_iast (w := 13) 63 rfl rfl (by decide) (tg_36 S1) (ln_36 S1) (by omega) (by omega) ?_
      refine p_nmh (fun y1 e1 => ?_)
      have S1 : Shape y1 := by rw [e1]; exact S1.svA fa_36 _ _
      refine p_aload 64 rfl rfl rfl ?_
      refine p_iload 66 rfl rfl rfl ?_
      refine p_iload 68 rfl rfl rfl ?_
      refine p_const 69 rfl rfl ?_
      refine p_const 70 rfl rfl ?_
      have kp1 : Keep plA h y1 := by rw [e1]; exact kp.sv rfl _
      have kB1 := kp1.wide plA_bkB
      have ks : Keep (sdA f) h1 y1 := by rw [e1]; exact (Keep.rf _ _).sv (sdA_yes ⟨by omega, rfl⟩) _
      have o1 : ∀ a i, i ≠ f → gv y1 a i = gv h1 a i := fun a i hi => by rw [e1, sv_nf hi]
      have hM : (n - ((m : Nat) : Int)).toNat = (n - ((m + 1 : Nat) : Int)).toNat + 1 := by omega
      have cb : ∀ j, f < j → j ≤ n → gv y1 36 j = 1000 ∨ ((0 ≤ gv y1 36 j ∧ gv y1 36 j ≤ 12) ∧ 0 ≤ gv y1 37 j ∧ gv y1 37 j ≤ 48) := fun j j0 j1 => by
        have cj := ce j j0 j1
        have bo := R.bok (s := s) (t := t) (z := zh h t) (ids := fun i => gv h 33 i) (n := n) (n - ((m + 1 : Nat) : Int)).toNat j (by omega) j1
        rw [o1 36 j (by omega), o1 37 j (by omega), cj.1]
        rcases bo with y | ⟨y1, y2, _⟩
        · exact Or.inl y
        · have := (cj.2 (by omega)).1
          refine Or.inr ⟨⟨by omega, by omega⟩, by omega, by omega⟩
      have PB1 : PB y1 a k s t (zh h t) n f := ⟨R.kp kB1, Pr.kp ks (sdA_prep f), F.kp kB1, hs, ⟨(kp1.1 32 3 rfl).trans hn, n1, n12⟩, by rw [e1, sv_ne (by decide)]; exact b4, by rw [e1, sv_ne (by decide)]; exact b5, ⟨by omega, by omega⟩, cb⟩
      have PX1 : PX y1 f (1000, 0, 0, 0) := ⟨by rw [e1, sv_eq], fun y => absurd y (by decide)⟩
      refine p_callv (le := [some (.inr (.inr 32)), some (.inl f), some (.inl f), some (.inl 0), some (.inl 0), none, none]) (as := [.inr (.inr 32), .inl f, .inl f, .inl 0, .inl 0]) (rest := []) 73 0 0 0 0 rfl rfl (Nat.le_of_ble_eq_true rfl) rfl (Nat.le_of_ble_eq_true rfl) rfl rfl (Nat.le_of_ble_eq_true rfl) rfl (Nat.le_of_ble_eq_true rfl) rfl (Nat.le_refl _) (Nat.le_refl _) rfl rfl (tg_32 S1) ?_
      refine x_extend PB1 4 d _ f 0 0 (1000, 0, 0, 0) y1 (by omega) (by omega) (by omega) (by omega) (by omega) (Or.inl ⟨rfl, rfl⟩) S1 (Keep.rf _ _) PX1 (fun y2 p2 S2 => ?_)
      show Wp (d + 16) 0 0 M_X7_plan 73 [some (.inr (.inr 32)), some (.inr (.inr a)), some (.inl s), some (.inl t), some (.inl f)] [] y2 _
      refine p_iinc (y := f - 1) (ls' := [some (.inr (.inr 32)), some (.inr (.inr a)), some (.inl s), some (.inl t), some (.inl (f - 1))]) 76 rfl rfl rfl (wsub_id ⟨(by omega), (by omega)⟩) rfl ?_
      refine p_goto 48 rfl rfl ?_
      -- leaf 1: loop 48 [some (.inr (.inr 32)), some (.inr (.inr a)), some (.inl s), some (.inl t), some (.inl (f - 1))] st=[] h=y2 
      obtain ⟨k2, P2⟩ := p2
      have e33 : (fun i => gv y1 33 i) = (fun i => gv h 33 i) := funext fun i => kp1.1 33 i rfl
      have hcx : CX1 y1 k s t (zh h t) n 4 f 0 0 = cndF h k s t (zh h t) (fun i => gv h 33 i) n f := by
        have := congrFun (cndF_congr kB1 k s t (zh h t) (fun i => gv y1 33 i) n) f
        rw [e33] at this
        rw [← this, ← e33]
      have hfold : List.foldl (SX1 y1 k s t (zh h t)) (1000, 0, 0, 0) (CX1 y1 k s t (zh h t) n 4 f 0 0) = bstF h k s t (zh h t) (fun i => gv h 33 i) n (n - ((m : Nat) : Int)).toNat f := by
        rw [hM, bstF_new (by omega), hcx]
        refine fold_congr _ _ (fun x hx u => ?_)
        obtain ⟨⟨x1, x2⟩, x3, x4, x5⟩ := R.cnd f x hx
        have cj := ce x.1 x1 x2
        refine stpF_congr ?_ ?_ ?_ ?_
        · show gv y1 36 x.1 = _; rw [o1 36 _ (by omega)]; exact cj.1
        · show gv y1 36 x.1 < 1000 → gv y1 37 x.1 = _; rw [o1 36 _ (by omega), o1 37 _ (by omega), cj.1]; exact fun y => (cj.2 y).1
        · show hoF x.2.1 (gv y1 6 s) (gv y1 7 s) = hoF x.2.1 (gv h 86 s) (gv h 87 s); rw [kB1.1 6 s rfl, kB1.1 7 s rfl, (F.lk s hs.1 hs.2).1, (F.rp s hs.1 hs.2).1]
        · show (∃ l, only (Rd (Ws y1 k s t (zh h t)) x.2.1) l) ↔ _; rw [Ws_congr kB1]
      rw [hfold] at P2
      refine ih (f - 1) _ (by omega) (by omega) S2 (kp1.trans (k2.wide (sdA_plA f))) ((Pr.kp ks (sdA_prep f)).kp k2 (sdA_prep f)) ((k2.1 32 4 (sdA_no (by omega))).trans (by rw [e1, sv_ne (by decide)]; exact b4)) ((k2.1 32 5 (sdA_no (by omega))).trans (by rw [e1, sv_ne (by decide)]; exact b5)) (fun i i0 i1 => ?_)
      by_cases y : i = f
      · rw [y]; exact ⟨P2.1, fun z => ⟨(P2.2 z).1, fun _ => (P2.2 z).2⟩⟩
      · have cj := ce i (by omega) i1
        rw [hM, bstF_old (by omega)]
        exact cj.kp (fun a a0 a1 => (k2.1 a i (sdA_no (by omega))).trans (o1 a i y))
  refine p_aload 1 rfl rfl rfl ?_
  refine p_aload 2 rfl rfl rfl ?_
  refine p_putfr (j := 4) 5 rfl rfl rfl (fun z => absurd z (by decide)) (tg_32 S) rfl ?_
  refine p_nmh (fun y1 e1 => ?_)
  have S1 : Shape y1 := by rw [e1]; exact S.svF ff_32_4 _
  have kp1 : Keep plA h y1 := by rw [e1]; exact (Keep.rf plA _).sv rfl _
  refine p_aload 6 rfl rfl rfl ?_
  refine p_iload 7 rfl rfl rfl ?_
  refine p_putfi (j := 5) 10 rfl rfl rfl (fun z => absurd z (by decide)) (tg_32 S1) rfl ?_
  refine p_nmh (fun y2 e2 => ?_)
  have S2 : Shape y2 := by rw [e2]; exact S1.svF ff_32_5 _
  have kp2 : Keep plA h y2 := by rw [e2]; exact kp1.sv rfl _
  refine p_aload 11 rfl rfl rfl ?_
  refine p_getfr (j := 1) (z := 24) 14 rfl rfl rfl (tg_32 S2) rfl (fi_32_1 S2) ?_
  refine p_aload 15 rfl rfl rfl ?_
  refine p_iload 16 rfl rfl rfl ?_
  refine p_iload 17 rfl rfl rfl ?_
  refine p_callv (le := [some (.inr (.inr 24)), some (.inr (.inr a)), some (.inl s), some (.inl t), none]) (as := [.inr (.inr 24), .inr (.inr a), .inl s, .inl t]) (rest := []) 20 0 0 0 0 rfl rfl (Nat.le_of_ble_eq_true rfl) rfl (Nat.le_of_ble_eq_true rfl) rfl rfl (Nat.le_of_ble_eq_true rfl) rfl (Nat.le_of_ble_eq_true rfl) rfl (Nat.le_refl _) (Nat.le_refl _) rfl rfl (tg_24 S2) ?_
  refine x_prepare S2 a s t (R.kp (kp2.wide plA_bkB)) (F.kp (kp2.wide plA_bkB)) hs ht (fun y3 p3 S3 => ?_)
  have kp3 : Keep plA h y3 := kp2.trans (p3.1.wide pA_plA)
  show Wp (d + 16) 0 0 M_X7_plan 20 [some (.inr (.inr 32)), some (.inr (.inr a)), some (.inl s), some (.inl t), none] [] y3 _
  refine p_aload 21 rfl rfl rfl ?_
  refine p_getfr (j := 8) (z := 36) 24 rfl rfl rfl (tg_32 S3) rfl (fi_32_8 S3) ?_
  refine p_aload 25 rfl rfl rfl ?_
  refine p_getfi (j := 3) (z := n) 28 rfl rfl rfl (tg_32 S3) rfl ((kp3.1 _ _ rfl).trans hn) ?_
  refine p_const 29 rfl rfl ?_
  refine p_iast (w := 13) 30 rfl rfl (by decide) (tg_36 S3) (ln_36 S3) (by omega) (by omega) ?_
  refine p_nmh (fun y4 e4 => ?_)
  have S4 : Shape y4 := by rw [e4]; exact S3.svA fa_36 _ _
  have kp4 : Keep plA h y4 := by rw [e4]; exact kp3.sv rfl _
  refine p_aload 31 rfl rfl rfl ?_
  refine p_getfr (j := 9) (z := 37) 34 rfl rfl rfl (tg_32 S4) rfl (fi_32_9 S4) ?_
  refine p_aload 35 rfl rfl rfl ?_
  refine p_getfi (j := 3) (z := n) 38 rfl rfl rfl (tg_32 S4) rfl ((kp4.1 _ _ rfl).trans hn) ?_
  refine p_const 39 rfl rfl ?_
  refine p_iast (w := 13) 40 rfl rfl (by decide) (tg_37 S4) (ln_37 S4) (by omega) (by omega) ?_
  refine p_nmh (fun y5 e5 => ?_)
  have S5 : Shape y5 := by rw [e5]; exact S4.svA fa_37 _ _
  have kp5 : Keep plA h y5 := by rw [e5]; exact kp4.sv rfl _
  refine p_aload 41 rfl rfl rfl ?_
  refine p_getfi (j := 3) (z := n) 44 rfl rfl rfl (tg_32 S5) rfl ((kp5.1 _ _ rfl).trans hn) ?_
  refine p_const 45 rfl rfl ?_
  refine p_isub (z := n - 1) 46 rfl rfl (w32_id ⟨(by omega), (by omega)⟩) ?_
  refine p_istore (ls' := [some (.inr (.inr 32)), some (.inr (.inr a)), some (.inl s), some (.inl t), some (.inl (n - 1))]) 48 rfl rfl (Nat.le_of_ble_eq_true rfl) rfl ?_
  -- leaf 1: loop 48 [some (.inr (.inr 32)), some (.inr (.inr a)), some (.inl s), some (.inl t), some (.inl (n - 1))] st=[] h=y5 e5,e4 kp5
  have Pr : Prep y3 a k s t (zh h t) := by have y := p3.2; rw [zh_congr (kp2.wide plA_bkB)] at y; exact y
  have ks : Keep (sdA n) y3 y5 := by rw [e5, e4]; exact ((Keep.rf _ _).sv (sdA_yes ⟨by omega, rfl⟩) _).sv (sdA_yes ⟨by omega, rfl⟩) _
  refine L n.toNat (n - 1) _ (by omega) (by omega) S5 kp5 (Pr.kp ks (sdA_prep n)) ?_ ?_ (fun i i0 i1 => ?_)
  · rw [e5, sv_ne (by decide), e4, sv_ne (by decide), p3.1.1 32 4 rfl, e2, sv_nf (by decide), e1, sv_eq]
  · rw [e5, sv_ne (by decide), e4, sv_ne (by decide), p3.1.1 32 5 rfl, e2, sv_eq]
  · have : i = n := by omega
    subst this
    rw [show (i - (i.toNat : Int)).toNat = 0 by omega]
    exact ⟨by rw [e5, sv_ne (by decide), e4, sv_eq]; rfl, fun _ => ⟨by rw [e5, sv_eq]; rfl, fun y => by omega⟩⟩

