/-! CHANGE, the model's side -/
def mchA (a i : Int) : Bool := decide ((a = 66 ∧ (i = 38 ∨ i = 48 ∨ i = 49 ∨ i = 52 ∨ i = 56 ∨ i = 83 ∨ i = 85 ∨ i = 87)) ∨ (92 ≤ a ∧ a ≤ 93) ∨ (99 ≤ a ∧ a ≤ 104) ∨ (125 ≤ a ∧ a ≤ 127))
def mchB (a i : Int) : Bool := decide ((a = 66 ∧ (i = 38 ∨ i = 48 ∨ i = 49 ∨ i = 52 ∨ i = 56 ∨ i = 83 ∨ i = 85)) ∨ (92 ≤ a ∧ a ≤ 93) ∨ (99 ≤ a ∧ a ≤ 104) ∨ (125 ≤ a ∧ a ≤ 126))
theorem mchB_A : ∀ a i, mchA a i = false → mchB a i = false := fun a i => dw (by omega)
theorem stA_A : ∀ a i, mchA a i = false → stA a i = false := fun a i => dw (by omega)
theorem mtkA_mchB : ∀ a i, mchB a i = false → mtkA a i = false := fun a i => dw (by omega)
theorem gaA_mchB : ∀ a i, mchB a i = false → gaA a i = false := fun a i => dw (by omega)
theorem hoA_mchB : ∀ a i, mchB a i = false → hoA a i = false := fun a i z => hoA_f (fun y => of_decide_eq_false z (by omega))
theorem hoA_open : ∀ a i, bkB a i = false ∨ (a = 66 ∧ i = 49) ∨ a = 100 ∨ a = 101 → hoA a i = false := fun a i z => hoA_f (fun y => by
  rcases z with z | z
  · exact of_decide_eq_false z (by omega)
  · omega)
theorem mchB_bkB : ∀ a i, bkB a i = false → mchB a i = false := fun a i => dw (by omega)
theorem mchB_b : ∀ a i, bkB a i = false → mchB a i = false := mchB_bkB
theorem chgR_nil {m m' r : Int} {l : List Int} (h : ChgR [] m r l) : ChgR [] m' r l := by
  have z : ∀ mm : Int, fnd [] mm 0 0 [] = some [] := fun mm => fnd_zero.1 (fun c hc => absurd hc List.not_mem_nil)
  rcases h with ⟨n, a, b, c, e⟩ | ⟨_, e⟩
  · cases n with
    | zero =>
      rw [z m] at c
      exact Or.inl ⟨0, a, b, by rw [z m', ← c], fun i hi => by omega⟩
    | succ n =>
      have y := e 0 (by omega)
      rw [z m] at y; cases y
  · have y := e 0 (by omega)
    rw [z m] at y; cases y
def ChgM (h : PH) (n r : Int) (h' : PH) : Prop := (¬ (0 ≤ n ∧ n ≤ gv h 18 5) ∧ r = -1 ∧ gv h' 66 87 = gv h 66 87 ∧ ∀ i, gv h' 127 i = gv h 127 i) ∨ ((0 ≤ n ∧ n ≤ gv h 18 5) ∧ ∃ l, ChgR (tot h (kb h) (bkAt h n n.toNat) (gv h 18 5).toNat 1) (msz h (kb h)) r l ∧ ((r = -1 ∧ gv h' 66 87 = gv h 66 87 ∧ ∀ i, gv h' 127 i = gv h 127 i) ∨ (r ≠ -1 ∧ gv h' 66 87 = r ∧ ∀ (i : Nat) w, l[i]? = some w → gv h' 127 i = w)))
theorem tot_two {h : PH} {ko kh : Int} : ∀ (c : Nat) (k : Int), tot h ko kh c k ≠ [] → ko ≠ 0
  | 0, _, e => absurd rfl e
  | c + 1, k, e => by
    by_cases r : read2 h ko kh k
    · exact r.2.two.1
    · rw [tot_no r] at e; exact tot_two c (k + 1) e
set_option maxRecDepth 4000 in
theorem m_change {d : Nat} {h : PH} {q : PQ} (S : Shape h) (A : AI h) (F : FI h) (n : Int) (K : ∀ r h', (Keep mchA h h' ∧ ChgM h n r h') → Shape h' → q (some (.inl r)) h') :
    Wp (d + 11) 0 0 M_X12_change 0 [some (.inr (.inr 66)), some (.inl n), none, none, none, none, none, none] [] h q := by
  have A0 := A
  have c5 := A.1
  have a40 := A.1.2.2.1
  have no : ¬ (0 ≤ n ∧ n ≤ gv h 18 5) → q (some (.inl (-1))) h := fun z => K _ _ ⟨Keep.rf _ _, Or.inl ⟨z, rfl, rfl, fun _ => rfl⟩⟩ S
  have J108 : ∀ (mm : Int) (c nn : Nat) (y : Int) (w4 w5 w6 w7 : Option PV) (h1 : PH), (0 ≤ n ∧ n ≤ gv h 18 5) → 0 ≤ mm → mm ≤ 40 → (tot h (kb h) (bkAt h n n.toNat) (gv h 18 5).toNat 1 = [] ∨ mm = msz h (kb h)) → y = nn → nn + c = 5 → Shape h1 → Keep mchB h h1 → CMr h1 (tot h (kb h) (bkAt h n n.toNat) (gv h 18 5).toNat 1) → (∀ i : Nat, i < nn → fnd (tot h (kb h) (bkAt h n n.toNat) (gv h 18 5).toNat 1) mm i 0 [] = none) →
      Wp (d + 11) 0 0 M_X12_change 108 [some (.inr (.inr 66)), some (.inl n), some (.inl mm), some (.inl y), w4, w5, w6, w7] [] h1 q := by
    intro mm c
    have cv : ∀ (r : Int) (l : List Int), (tot h (kb h) (bkAt h n n.toNat) (gv h 18 5).toNat 1 = [] ∨ mm = msz h (kb h)) → ChgR (tot h (kb h) (bkAt h n n.toNat) (gv h 18 5).toNat 1) mm r l → ChgR (tot h (kb h) (bkAt h n n.toNat) (gv h 18 5).toNat 1) (msz h (kb h)) r l := fun r l z R => by
      rcases z with z | z
      · rw [z] at R ⊢; exact chgR_nil R
      · rw [← z]; exact R
    induction c with
    | zero =>
      intro nn y w4 w5 w6 w7 h1 nr m0 m40 em hy hn S1 k1 Y al
      refine p_iload 109 rfl rfl rfl ?_
      refine p_const 110 rfl rfl ?_
      refine p_ic_gt_t 342 rfl rfl (by omega) ?_
      refine p_const 343 rfl rfl ?_
      refine p_iret rfl rfl ?_
      -- leaf 1: answer [.inl (-1)] h=h1 
      exact K (-1) h1 ⟨k1.wide mchB_A, Or.inr ⟨nr, [], cv _ _ em (Or.inr ⟨rfl, fun i hi => al i (by omega)⟩), Or.inl ⟨rfl, k1.1 66 87 rfl, fun i => k1.1 127 i rfl⟩⟩⟩ S1
    | succ c ih =>
      intro nn y w4 w5 w6 w7 h1 nr m0 m40 em hy hn S1 k1 Y al
      have go : Wp (d + 11) 0 0 M_X12_change 113 [some (.inr (.inr 66)), some (.inl n), some (.inl mm), some (.inl y), w4, w5, w6, w7] [] h1 q := by
        refine chq1 (d := d + 9) S1 Y hy (by omega) m0 m40 [] [] rfl rfl (by show 0 = min nn 0; omega) w4 w5 w6 w7 (fun l hl => ?_) (fun hn' w4 w5 w6 w7 => ?_)
        · intro h' k' e1 e2 S'
          exact K y h' ⟨(k1.wide mchB_A).trans (k'.wide stA_A), Or.inr ⟨nr, l, cv _ _ em (Or.inl ⟨nn, hy, by omega, hl, al⟩), Or.inr ⟨by omega, e1, e2⟩⟩⟩ S'
        · skip
          refine p_iinc (y := y + 1) (ls' := [some (.inr (.inr 66)), some (.inl n), some (.inl mm), some (.inl (y + 1)), w4, w5, w6, w7]) 339 rfl rfl rfl (w32_id ⟨(by omega), (by omega)⟩) rfl ?_
          refine p_goto 108 rfl rfl ?_
          -- leaf 1: loop 108 [some (.inr (.inr 66)), some (.inl n), some (.inl mm), some (.inl (y + 1)), w4, w5, w6, w7] st=[] h=h1 
          refine ih (nn + 1) (y + 1) _ _ _ _ h1 nr m0 m40 em (by omega) (by omega) S1 k1 Y (fun i hi => ?_)
          by_cases z : i = nn
          · rw [z]; exact hn'
          · exact al i (by omega)
      refine p_iload 109 rfl rfl rfl ?_
      refine p_const 110 rfl rfl ?_
      refine p_ic_gt_f 113 rfl rfl (by omega) ?_
      -- leaf 1: loop 113 [some (.inr (.inr 66)), some (.inl n), some (.inl mm), some (.inl y), w4, w5, w6, w7] st=[] h=h1 
      exact go
  have J23 : ∀ (c : Nat) (k : Int) (D : List P4) (h1 : PH), (0 ≤ n ∧ n ≤ gv h 18 5) → k + c = gv h 18 5 + 1 → 1 ≤ k → tot h (kb h) (bkAt h n n.toNat) (gv h 18 5).toNat 1 = D ++ tot h (kb h) (bkAt h n n.toNat) c k → Shape h1 → Keep mchB h h1 → CMr h1 D → D.length ≤ 3 * (k - 1).toNat →
      Wp (d + 11) 0 0 M_X12_change 23 [some (.inr (.inr 66)), some (.inl n), some (.inl k), none, none, none, none, none] [] h1 q := by
    intro c
    induction c with
    | zero =>
      intro k D h1 nr hk k0 hD S1 k1 Y lD
      rw [show tot h (kb h) (bkAt h n n.toNat) 0 k = [] from rfl, List.append_nil] at hD
      have kB := k1.wide mchB_bkB
      have A1 := A.kp kB
      have e40 : gv h1 66 40 = gv h 18 5 := (k1.1 66 40 rfl).trans a40
      have y1 := Y.1
      have A0 := A1
      have nwi := nw_in A1
      have kbi : 0 ≤ kb h ∧ kb h ≤ 200 := by rcases A.kb with ⟨z, _⟩ | ⟨z1, z2, _⟩ <;> omega
      have ek : bkAt h1 (nw h1) (nw h1).toNat = kb h := kb_congr kB
      have e79 : gv h1 79 (kb h) = gv h 79 (kb h) := k1.1 79 _ rfl
      refine p_iload 24 rfl rfl rfl ?_
      refine p_aload 25 rfl rfl rfl ?_
      refine p_getfi (j := 40) (z := (gv h 18 5)) 28 rfl rfl rfl (tg_66 S1) rfl e40 ?_
      refine p_ic_gt_t 81 rfl rfl (by omega) ?_
      refine p_aload 82 rfl rfl rfl ?_
      refine p_getfi (j := 85) (z := (D.length : Int)) 85 rfl rfl rfl (tg_66 S1) rfl y1 ?_
      refine p_if_ne 88 92 rfl rfl rfl (fun c1 => ?_) (fun c1 => ?_)
      · skip
        refine p_aload 93 rfl rfl rfl ?_
        refine p_getfr (j := 20) (z := 79) 96 rfl rfl rfl (tg_66 S1) rfl (fi_66_20 S1) ?_
        refine p_aload 97 rfl rfl rfl ?_
        refine p_aload 98 rfl rfl rfl ?_
        refine p_callv (le := [some (.inr (.inr 66))]) (as := [.inr (.inr 66)]) (rest := [.inr (.inr 66), .inr (.inr 79)]) 101 0 0 0 0 rfl rfl (Nat.le_of_ble_eq_true rfl) rfl (Nat.le_of_ble_eq_true rfl) rfl rfl (Nat.le_of_ble_eq_true rfl) rfl (Nat.le_of_ble_eq_true rfl) rfl (Nat.le_refl _) (Nat.le_refl _) rfl rfl (tg_66 S1) ?_
        refine m_now S1  (A0) ?_
        show Wp (d + 11) 0 0 M_X12_change 101 [some (.inr (.inr 66)), some (.inl n), some (.inl k), none, none, none, none, none] [.inl (nw h1), .inr (.inr 66), .inr (.inr 79)] h1 _
        refine p_callv (le := [some (.inr (.inr 66)), some (.inl (nw h1)), none, none]) (as := [.inr (.inr 66), .inl (nw h1)]) (rest := [.inr (.inr 79)]) 104 0 0 0 0 rfl rfl (Nat.le_of_ble_eq_true rfl) rfl (Nat.le_of_ble_eq_true rfl) rfl rfl (Nat.le_of_ble_eq_true rfl) rfl (Nat.le_of_ble_eq_true rfl) rfl (Nat.le_refl _) (Nat.le_refl _) rfl rfl (tg_66 S1) ?_
        refine m_bookAt S1 (nw h1) (A0) (by omega) (by omega) ?_
        show Wp (d + 11) 0 0 M_X12_change 104 [some (.inr (.inr 66)), some (.inl n), some (.inl k), none, none, none, none, none] [.inl (bkAt h1 (nw h1) ((nw h1)).toNat), .inr (.inr 79)] h1 _
        refine p_iald (w := 201) (z := gv h1 79 (bkAt h1 (nw h1) ((nw h1)).toNat)) 105 rfl rfl (tg_79 S1) (ln_79 S1) (by omega) (by omega) rfl ?_
        refine p_nmi (fun v2 w2 => ?_)
        refine p_istore (ls' := [some (.inr (.inr 66)), some (.inl n), some (.inl v2), none, none, none, none, none]) 106 rfl rfl (Nat.le_of_ble_eq_true rfl) rfl ?_
        refine p_const 107 rfl rfl ?_
        refine p_istore (ls' := [some (.inr (.inr 66)), some (.inl n), some (.inl v2), some (.inl 0), none, none, none, none]) 108 rfl rfl (Nat.le_of_ble_eq_true rfl) rfl ?_
        -- leaf 1: loop 108 [some (.inr (.inr 66)), some (.inl n), some (.inl v2), some (.inl 0), none, none, none, none] st=[] h=h1 
        rw [w2, ek, e79]
        have ne : kb h ≠ 0 := tot_two _ _ (by rw [hD]; intro e; rw [e] at c1; exact c1 rfl)
        have R : 0 ≤ gv h 79 (kb h) ∧ gv h 79 (kb h) ≤ 40 := by
          rcases AIkbO A with ⟨_, z⟩ | ⟨_, _, _, R⟩
          · exact absurd z ne
          · exact ⟨R.1, R.2.1⟩
        exact J108 _ 5 0 0 _ _ _ _ h1 nr R.1 R.2 (Or.inr (if_neg ne).symm) rfl rfl S1 k1 (by rw [hD]; exact Y) (fun i hi => by omega)
      · skip
        refine p_const 89 rfl rfl ?_
        refine p_goto 105 rfl rfl ?_
        refine p_istore (ls' := [some (.inr (.inr 66)), some (.inl n), some (.inl 0), none, none, none, none, none]) 106 rfl rfl (Nat.le_of_ble_eq_true rfl) rfl ?_
        refine p_const 107 rfl rfl ?_
        refine p_istore (ls' := [some (.inr (.inr 66)), some (.inl n), some (.inl 0), some (.inl 0), none, none, none, none]) 108 rfl rfl (Nat.le_of_ble_eq_true rfl) rfl ?_
        -- leaf 2: loop 108 [some (.inr (.inr 66)), some (.inl n), some (.inl 0), some (.inl 0), none, none, none, none] st=[] h=h1 
        exact J108 0 5 0 0 _ _ _ _ h1 nr (by decide) (by decide) (Or.inl (by rw [hD]; exact List.eq_nil_of_length_eq_zero (by omega))) rfl rfl S1 k1 (by rw [hD]; exact Y) (fun i hi => by omega)
    | succ c ih =>
      intro k D h1 nr hk k0 hD S1 k1 Y lD
      have kB := k1.wide mchB_bkB
      have A1 := A.kp kB
      have A0 := A1
      have F1 := F.kp kB
      have e40 : gv h1 66 40 = gv h 18 5 := (k1.1 66 40 rfl).trans a40
      have e5 : gv h1 18 5 = gv h 18 5 := k1.1 18 5 rfl
      have enw : nw h1 = nw h := nw_congr kB
      have fl : (k ≤ gv h1 18 5 ∧ isFl h1 k (nw h1)) ↔ (k ≤ gv h 18 5 ∧ isFl h k (nw h)) := by
        unfold isFl
        rw [enw, e5, kB.1 94 k rfl, kB.1 98 k rfl]
      have nxt : ∀ (D' : List P4) (h' : PH), tot h (kb h) (bkAt h n n.toNat) (gv h 18 5).toNat 1 = D' ++ tot h (kb h) (bkAt h n n.toNat) c (k + 1) → Shape h' → Keep mchB h h' → CMr h' D' → D'.length ≤ D.length + 3 → Wp (d + 11) 0 0 M_X12_change 75 [some (.inr (.inr 66)), some (.inl n), some (.inl k), none, none, none, none, none] [] h' q := by
        intro D' h' e' S' k' Y' l'
        refine p_iinc (y := k + 1) (ls' := [some (.inr (.inr 66)), some (.inl n), some (.inl (k + 1)), none, none, none, none, none]) 78 rfl rfl rfl (w32_id ⟨(by omega), (by omega)⟩) rfl ?_
        refine p_goto 23 rfl rfl ?_
        -- leaf 1: loop 23 [some (.inr (.inr 66)), some (.inl n), some (.inl (k + 1)), none, none, none, none, none] st=[] h=h' 
        exact ih (k + 1) D' h' nr (by omega) (by omega) e' S' k' Y' (by omega)
      refine p_iload 24 rfl rfl rfl ?_
      refine p_aload 25 rfl rfl rfl ?_
      refine p_getfi (j := 40) (z := (gv h 18 5)) 28 rfl rfl rfl (tg_66 S1) rfl ((k1.1 _ _ rfl).trans a40) ?_
      refine p_ic_gt_f 31 rfl rfl (by omega) ?_
      refine p_aload 32 rfl rfl rfl ?_
      refine p_iload 33 rfl rfl rfl ?_
      refine p_callv (le := [some (.inr (.inr 66)), some (.inl k)]) (as := [.inr (.inr 66), .inl k]) (rest := []) 36 0 0 0 0 rfl rfl (Nat.le_of_ble_eq_true rfl) rfl (Nat.le_of_ble_eq_true rfl) rfl rfl (Nat.le_of_ble_eq_true rfl) rfl (Nat.le_of_ble_eq_true rfl) rfl (Nat.le_refl _) (Nat.le_refl _) rfl rfl (tg_66 S1) ?_
      refine m_isFlown S1 k (A0) (fun c1 => ?_) (fun c1 => ?_)
      · show Wp (d + 11) 0 0 M_X12_change 36 [some (.inr (.inr 66)), some (.inl n), some (.inl k), none, none, none, none, none] [.inl 1] h1 _
        have fk := fl.1 c1
        have L := A.fl fk.1 fk.2
        obtain ⟨_, ho, lsx, ltx, f97, _, _⟩ := L
        refine p_if_eq_f 39 rfl rfl (by decide) ?_
        refine p_aload 40 rfl rfl rfl ?_
        refine p_iload 41 rfl rfl rfl ?_
        refine p_iload 42 rfl rfl rfl ?_
        refine p_callv (le := [some (.inr (.inr 66)), some (.inl k), some (.inl n), none, none, none, none, none, none]) (as := [.inr (.inr 66), .inl k, .inl n]) (rest := []) 45 0 0 0 0 rfl rfl (Nat.le_of_ble_eq_true rfl) rfl (Nat.le_of_ble_eq_true rfl) rfl rfl (Nat.le_of_ble_eq_true rfl) rfl (Nat.le_of_ble_eq_true rfl) rfl (Nat.le_refl _) (Nat.le_refl _) rfl rfl (tg_66 S1) ?_
        refine m_taken1 S1 A1 F1 k n (A1.fl c1.1 c1.2) (k1.1 21 k rfl) (k1.1 22 k rfl) (k1.1 20 k rfl) nr.1 (by omega) (fun r2 y2 p2 S2 => ?_)
        have kp2 : Keep mchB h y2 := k1.trans (p2.1.wide mtkA_mchB)
        show Wp (d + 11) 0 0 M_X12_change 45 [some (.inr (.inr 66)), some (.inl n), some (.inl k), none, none, none, none, none] [.inl r2] y2 _
        obtain ⟨k2', U2, o2⟩ := p2
        have ekh : bkAt h1 n n.toNat = bkAt h n n.toNat := by rw [bkAt_congr kB]
        rw [UndR_congr kB, kb_congr kB, ekh] at U2
        rw [kb_congr kB, zh_congr kB] at o2
        have Y2 : CMr y2 D := Y.kp (k2'.1 66 85 rfl) (fun i => k2'.1 126 i rfl)
        refine p_const 46 rfl rfl ?_
        refine p_ic_eq 49 52 rfl rfl rfl (fun c3 => ?_) (fun c3 => ?_)
        · skip
          have rd : read2 h (kb h) (bkAt h n n.toNat) k := ⟨fk, by rw [← show r2 = 2 by omega]; exact U2⟩
          have O2 := o2 (by omega)
          refine p_aload 53 rfl rfl rfl ?_
          refine p_aload 54 rfl rfl rfl ?_
          refine p_getfr (j := 44) (z := 97) 57 rfl rfl rfl (tg_66 S2) rfl (fi_66_44 S2) ?_
          refine p_iload 58 rfl rfl rfl ?_
          refine p_iald (w := 201) (z := (gv h 20 k)) 59 rfl rfl (tg_97 S2) (ln_97 S2) (by omega) (by omega) ((kp2.1 _ _ rfl).trans f97) ?_
          refine p_callv (le := [some (.inr (.inr 66)), some (.inl (gv h 20 k)), none, none]) (as := [.inr (.inr 66), .inl (gv h 20 k)]) (rest := []) 62 0 0 0 0 rfl rfl (Nat.le_of_ble_eq_true rfl) rfl (Nat.le_of_ble_eq_true rfl) rfl rfl (Nat.le_of_ble_eq_true rfl) rfl (Nat.le_of_ble_eq_true rfl) rfl (Nat.le_refl _) (Nat.le_refl _) rfl rfl (tg_66 S2) ?_
          refine m_isHo S2 (gv h 20 k)  (fun r4 y4 p4 S4 => ?_)
          have kp4 : Keep mchB h y4 := kp2.trans (p4.1.wide hoA_mchB)
          show Wp (d + 11) 0 0 M_X12_change 62 [some (.inr (.inr 66)), some (.inl n), some (.inl k), none, none, none, none, none] [.inl r4] y4 _
          have kbn := rd.2.two.1
          obtain ⟨hd1, hd2, _, Ro⟩ : 1 ≤ kb h ∧ kb h ≤ 200 ∧ 128 ≤ xb h ∧ BkR h (xb h) (kb h) := by
            rcases A.kb with ⟨z, _⟩ | z
            · exact absurd z kbn
            · exact z
          have kbr : 0 ≤ kb h ∧ kb h ≤ 200 := ⟨by omega, hd2⟩
          have gg := (told_rl ho).1
          have tvk := Ro.tvs lsx ltx (zh_in F ltx.1 ltx.2)
          have hok : r4 ≠ 0 := by
            rcases p4.2 with ⟨z, _⟩ | ⟨_, z⟩
            · omega
            · exact absurd ho z
          have kp4B := kp4.wide mchB_bkB
          have O4 := O2.kp p4.1 hoA_open
          have Y4 : CMr y4 D := Y2.kp (p4.1.1 66 85 (hoA_f (by decide))) (fun i => p4.1.1 126 i (hoA_f (by omega)))
          have gl := gk_len A (AIkbO A) rd
          have hl : D.length + (gat (pfF h (kb h) (gv h 21 k) (gv h 22 k) (zh h (gv h 22 k)) (told (gv h 20 k))) (told (gv h 20 k)) (wy (told (gv h 20 k))).toNat 0).length ≤ 600 := by
            have gl : (gat (pfF h (kb h) (gv h 21 k) (gv h 22 k) (zh h (gv h 22 k)) (told (gv h 20 k))) (told (gv h 20 k)) (wy (told (gv h 20 k))).toNat 0).length ≤ 3 := gl
            omega
          refine p_pop 63 rfl rfl nl_i ?_
          refine p_aload 64 rfl rfl rfl ?_
          refine p_aload 65 rfl rfl rfl ?_
          refine p_aload 66 rfl rfl rfl ?_
          refine p_getfi (j := 38) (z := gv y4 66 38) 69 rfl rfl rfl (tg_66 S4) rfl rfl ?_
          refine p_callv (le := [some (.inr (.inr 66)), some (.inl (gv y4 66 38)), none, none]) (as := [.inr (.inr 66), .inl (gv y4 66 38)]) (rest := [.inr (.inr 66)]) 72 0 0 0 0 rfl rfl (Nat.le_of_ble_eq_true rfl) rfl (Nat.le_of_ble_eq_true rfl) rfl rfl (Nat.le_of_ble_eq_true rfl) rfl (Nat.le_of_ble_eq_true rfl) rfl (Nat.le_refl _) (Nat.le_refl _) rfl rfl (tg_66 S4) ?_
          refine m_rowOfH S4 (gv y4 66 38) (v := gv h 20 k) (p4.yes hok) ?_
          show Wp (d + 11) 0 0 M_X12_change 72 [some (.inr (.inr 66)), some (.inl n), some (.inl k), none, none, none, none, none] [.inl (told (gv h 20 k)), .inr (.inr 66)] y4 _
          refine p_callv (le := [some (.inr (.inr 66)), some (.inl (told (gv h 20 k))), none, none]) (as := [.inr (.inr 66), .inl (told (gv h 20 k))]) (rest := []) 75 0 0 0 0 rfl rfl (Nat.le_of_ble_eq_true rfl) rfl (Nat.le_of_ble_eq_true rfl) rfl rfl (Nat.le_of_ble_eq_true rfl) rfl (Nat.le_of_ble_eq_true rfl) rfl (Nat.le_refl _) (Nat.le_refl _) rfl rfl (tg_66 S4) ?_
          refine m_gathers S4 (told (gv h 20 k)) kp4B gg O4 kbr.1 kbr.2 (by rw [kp4B.1 79 _ rfl]; exact Ro.1) (by rw [kp4B.1 79 _ rfl]; exact Ro.2.1) (tvk.kp kp4B) Y4 hl (fun y6 p6 S6 => ?_)
          have kp6 : Keep mchB h y6 := kp4.trans (p6.1.wide gaA_mchB)
          show Wp (d + 11) 0 0 M_X12_change 75 [some (.inr (.inr 66)), some (.inl n), some (.inl k), none, none, none, none, none] [] y6 _
          -- leaf 1: loop 75 [some (.inr (.inr 66)), some (.inl n), some (.inl k), none, none, none, none, none] st=[] h=y6  kp6
          refine nxt (D ++ gk h (kb h) k) _ ?_ S6 kp6 p6.2 (by rw [List.length_append]; omega)
          rw [hD, tot_yes rd, List.append_assoc]
        · skip
          refine p_goto 75 rfl rfl ?_
          -- leaf 2: loop 75 [some (.inr (.inr 66)), some (.inl n), some (.inl k), none, none, none, none, none] st=[] h=y2  kp2
          refine nxt D _ ?_ S2 kp2 Y2 (by omega)
          rw [hD, tot_no (fun r => c3 (U2.same r.2))]
      · show Wp (d + 11) 0 0 M_X12_change 36 [some (.inr (.inr 66)), some (.inl n), some (.inl k), none, none, none, none, none] [.inl 0] h1 _
        refine p_if_eq_t 75 rfl rfl (by decide) ?_
        -- leaf 3: loop 75 [some (.inr (.inr 66)), some (.inl n), some (.inl k), none, none, none, none, none] st=[] h=h1  k1
        refine nxt D _ ?_ S1 k1 Y (by omega)
        rw [hD, tot_no (fun r => c1 (fl.2 r.1))]
  refine p_iload 1 rfl rfl rfl ?_
  refine p_i2l 2 rfl rfl ?_
  refine p_lconst 3 rfl rfl ?_
  refine p_aload 4 rfl rfl rfl ?_
  refine p_getfi (j := 40) (z := gv h 66 40) 7 rfl rfl rfl (tg_66 S) rfl rfl ?_
  refine p_i2l 8 rfl rfl ?_
  refine p_calls (le := [some (.inr (.inl n)), none, some (.inr (.inl 0)), none, some (.inr (.inl (gv h 66 40))), none]) (as := [.inr (.inl n), .inr (.inl 0), .inr (.inl (gv h 66 40))]) (rest := []) 11 0 0 0 0 rfl rfl (Nat.le_of_ble_eq_true rfl) rfl (Nat.le_of_ble_eq_true rfl) rfl rfl (Nat.le_of_ble_eq_true rfl) rfl (Nat.le_of_ble_eq_true rfl) rfl (Nat.le_refl _) (Nat.le_refl _) rfl rfl ?_
  refine m_isIn S n 0 (gv h 66 40)  (fun c1 => ?_) (fun c1 => ?_)
  · show Wp (d + 11) 0 0 M_X12_change 11 [some (.inr (.inr 66)), some (.inl n), none, none, none, none, none, none] [.inl 1] h _
    refine p_if_ne_t 16 rfl rfl (by decide) ?_
    refine p_aload 17 rfl rfl rfl ?_
    refine p_const 18 rfl rfl ?_
    refine p_putfi (j := 85) 21 rfl rfl rfl (fun z => absurd z (by decide)) (tg_66 S) rfl ?_
    refine p_nmh (fun y2 e2 => ?_)
    have S2 : Shape y2 := by rw [e2]; exact S.svF ff_66_85 _
    refine p_const 22 rfl rfl ?_
    refine p_istore (ls' := [some (.inr (.inr 66)), some (.inl n), some (.inl 1), none, none, none, none, none]) 23 rfl rfl (Nat.le_of_ble_eq_true rfl) rfl ?_
    -- leaf 1: loop 23 [some (.inr (.inr 66)), some (.inl n), some (.inl 1), none, none, none, none, none] st=[] h=y2 e2
    exact J23 (gv h 18 5).toNat 1 [] _ (by omega) (by omega) (by omega) rfl S2 (by rw [e2]; exact (Keep.rf _ _).sv rfl _) ⟨by rw [e2, sv_eq]; rfl, by decide, fun c hc => absurd hc List.not_mem_nil, fun c x hx => by cases hx⟩ (Nat.zero_le _)
  · show Wp (d + 11) 0 0 M_X12_change 11 [some (.inr (.inr 66)), some (.inl n), none, none, none, none, none, none] [.inl 0] h _
    refine p_if_ne_f 14 rfl rfl (by decide) ?_
    refine p_const 15 rfl rfl ?_
    refine p_iret rfl rfl ?_
    -- leaf 2: answer [.inl (-1)] h=h 
    exact no (fun z => by omega)

