/-! THE MODEL'S READER: NOTs and brackets of a test -/
def dnA (a i : Int) : Bool := decide ((a = 66 ∧ (i = 26 ∨ i = 28 ∨ i = 29)) ∨ (a = 84 ∧ i < 700))
theorem drA_dnA : ∀ a i, dnA a i = false → drA a i = false := fun a i => dw (by omega)
theorem dnA_rtA : ∀ a i, rtA a i = false → dnA a i = false := fun a i => dw (by omega)
theorem m_isOn0 {d : Nat} {h : PH} {q : PQ} (S : Shape h) (v : Int) {W : List Int} (Y : StkM h W) (lw : W.length ≤ 799) (no : ¬ ∃ V, W = V ++ [v]) (K : q (some (.inl 0)) h) : Wp (d + 1) 0 0 M_X12_isOn 0 [some (.inr (.inr 66)), some (.inl v)] [] h q :=
  m_isOnE S v Y lw (fun z => absurd z no) (fun _ => K)
theorem m_isOn1 {d : Nat} {h : PH} {q : PQ} (S : Shape h) (v : Int) {V : List Int} (Y : StkM h (V ++ [v])) (lw : V.length ≤ 798) (K : q (some (.inl 1)) h) : Wp (d + 1) 0 0 M_X12_isOn 0 [some (.inr (.inr 66)), some (.inl v)] [] h q :=
  m_isOnE S v Y (by rw [List.length_append]; show V.length + 1 ≤ 799; omega) (fun _ => K) (fun z => absurd ⟨V, rfl⟩ z)
theorem m_dropsNotsB {d : Nat} {h : PH} {q : PQ} (S : Shape h) (b : gv h 66 5 ≠ 0) (K : q none h) : Wp (d + 3) 0 0 M_X12_dropsNots 0 [some (.inr (.inr 66))] [] h q := by
  refine p_aload 1 rfl rfl rfl ?_
  refine p_getfi (j := 5) (z := gv h 66 5) 4 rfl rfl rfl (tg_66 S) rfl rfl ?_
  refine p_if_ne_t 33 rfl rfl (by omega) ?_
  refine p_ret rfl rfl ?_
  -- leaf 1: answer [] h=h 
  exact K
theorem m_dropsNots {d : Nat} {h : PH} {q : PQ} (S : Shape h) {W C : List Int} {k : Nat} (Y : StkM h (W ++ List.replicate k 16)) (X : CodM h C) (nn : ¬ ∃ V, W = V ++ [16]) (b0 : gv h 66 5 = 0) (lw : W.length + k ≤ 790) (lc : C.length + k < 700) (o0 : (k : Int) ≤ gv h 66 29 ∧ gv h 66 29 ≤ 100)
    (K : ∀ h', (Keep dnA h h' ∧ StkM h' W ∧ CodM h' (C ++ List.replicate k 16) ∧ gv h' 66 29 = gv h 66 29 - k) → Shape h' → q none h') : Wp (d + 3) 0 0 M_X12_dropsNots 0 [some (.inr (.inr 66))] [] h q := by
  have J : ∀ (k : Nat) (h1 : PH) (D : List Int), StkM h1 (W ++ List.replicate k 16) → CodM h1 D → gv h1 66 5 = 0 → W.length + k ≤ 790 → D.length + k < 700 → ((k : Int) ≤ gv h1 66 29 ∧ gv h1 66 29 ≤ 100) → Shape h1 → (∀ h', (Keep dnA h1 h' ∧ StkM h' W ∧ CodM h' (D ++ List.replicate k 16) ∧ gv h' 66 29 = gv h1 66 29 - k) → Shape h' → q none h') → Wp (d + 3) 0 0 M_X12_dropsNots 0 [some (.inr (.inr 66))] [] h1 q := by
    intro k
    induction k with
    | zero =>
      intro h1 D Y1 X1 b1 lw lc o1 S1 K1
      have Y1 : StkM h1 W := by have z := Y1; rw [List.replicate_zero, List.append_nil] at z; exact z
      refine p_aload 1 rfl rfl rfl ?_
      refine p_getfi (j := 5) (z := gv h1 66 5) 4 rfl rfl rfl (tg_66 S1) rfl rfl ?_
      refine p_if_ne_f 7 rfl rfl (by omega) ?_
      refine p_aload 8 rfl rfl rfl ?_
      refine p_const 10 rfl rfl ?_
      refine p_callv (le := [some (.inr (.inr 66)), some (.inl 16)]) (as := [.inr (.inr 66), .inl 16]) (rest := []) 13 0 0 0 0 rfl rfl (Nat.le_of_ble_eq_true rfl) rfl (Nat.le_of_ble_eq_true rfl) rfl rfl (Nat.le_of_ble_eq_true rfl) rfl (Nat.le_of_ble_eq_true rfl) rfl (Nat.le_refl _) (Nat.le_refl _) rfl rfl (tg_66 S1) ?_
      refine m_isOn0 S1 16 Y1 (by omega) nn ?_
      show Wp (d + 3) 0 0 M_X12_dropsNots 13 [some (.inr (.inr 66))] [.inl 0] h1 _
      refine p_if_eq_t 33 rfl rfl (by decide) ?_
      refine p_ret rfl rfl ?_
      -- leaf 1: answer [] h=h1 
      exact K1 _ ⟨Keep.rf _ _, Y1, by rw [List.replicate_zero, List.append_nil]; exact X1, by show _ = gv h1 66 29 - 0; omega⟩ S1
    | succ k ih =>
      intro h1 D Y1 X1 b1 lw lc o1 S1 K1
      have Y1 : StkM h1 (W ++ List.replicate k 16 ++ [16]) := by have z := Y1; rw [List.replicate_succ', ← List.append_assoc] at z; exact z
      have wl : (W ++ List.replicate k (16 : Int)).length = W.length + k := by rw [List.length_append, List.length_replicate]
      refine p_aload 1 rfl rfl rfl ?_
      refine p_getfi (j := 5) (z := gv h1 66 5) 4 rfl rfl rfl (tg_66 S1) rfl rfl ?_
      refine p_if_ne_f 7 rfl rfl (by omega) ?_
      refine p_aload 8 rfl rfl rfl ?_
      refine p_const 10 rfl rfl ?_
      refine p_callv (le := [some (.inr (.inr 66)), some (.inl 16)]) (as := [.inr (.inr 66), .inl 16]) (rest := []) 13 0 0 0 0 rfl rfl (Nat.le_of_ble_eq_true rfl) rfl (Nat.le_of_ble_eq_true rfl) rfl rfl (Nat.le_of_ble_eq_true rfl) rfl (Nat.le_of_ble_eq_true rfl) rfl (Nat.le_refl _) (Nat.le_refl _) rfl rfl (tg_66 S1) ?_
      refine m_isOn1 S1 16 Y1 (by omega) ?_
      show Wp (d + 3) 0 0 M_X12_dropsNots 13 [some (.inr (.inr 66))] [.inl 1] h1 _
      refine p_if_eq_f 16 rfl rfl (by decide) ?_
      refine p_aload 17 rfl rfl rfl ?_
      refine p_dup 18 rfl rfl nl_r ?_
      refine p_getfi (j := 29) (z := gv h1 66 29) 21 rfl rfl rfl (tg_66 S1) rfl rfl ?_
      refine p_const 22 rfl rfl ?_
      refine p_isub (z := (gv h1 66 29) - 1) 23 rfl rfl (w32_id ⟨(by omega), (by omega)⟩) ?_
      refine p_putfi (j := 29) 26 rfl rfl rfl (fun z => absurd z (by decide)) (tg_66 S1) rfl ?_
      refine p_nmh (fun y2 e2 => ?_)
      have S2 : Shape y2 := by rw [e2]; exact S1.svF ff_66_29 _
      refine p_aload 27 rfl rfl rfl ?_
      have YA : StkM y2 (W ++ List.replicate k 16 ++ [16]) := Y1.of (by rw [e2, sv_nf (by decide)]) (fun i => by rw [e2, sv_ne (by decide)])
      have XA : CodM y2 D := X1.of (by rw [e2, sv_nf (by decide)]) (fun i => by rw [e2, sv_ne (by decide)])
      refine p_callv (le := [some (.inr (.inr 66))]) (as := [.inr (.inr 66)]) (rest := []) 30 0 0 0 0 rfl rfl (Nat.le_of_ble_eq_true rfl) rfl (Nat.le_of_ble_eq_true rfl) rfl rfl (Nat.le_of_ble_eq_true rfl) rfl (Nat.le_of_ble_eq_true rfl) rfl (Nat.le_refl _) (Nat.le_refl _) rfl rfl (tg_66 S2) ?_
      refine m_drops S2 YA XA (by omega) (by omega) (fun y3 p3 S3 => ?_)
      show Wp (d + 3) 0 0 M_X12_dropsNots 30 [some (.inr (.inr 66))] [] y3 _
      refine p_goto 0 rfl rfl ?_
      -- leaf 1: loop 0 [some (.inr (.inr 66))] st=[] h=y3 
      obtain ⟨kd, Y3, X3⟩ := p3
      have kA : Keep dnA h1 y2 := by rw [e2]; exact (Keep.rf _ _).sv rfl _
      have o3 : gv y3 66 29 = gv h1 66 29 - 1 := by rw [kd.1 66 29 rfl, e2, sv_eq]
      have b3 : gv y3 66 5 = 0 := by rw [kd.1 66 5 rfl, e2, sv_nf (by decide)]; exact b1
      refine ih y3 (D ++ [16]) Y3 X3 b3 (by omega) (by rw [List.length_append]; show D.length + 1 + k < 700; omega) (by omega) S3 (fun h' p' S' => K1 h' ⟨(kA.trans (kd.wide drA_dnA)).trans p'.1, p'.2.1, ?_, ?_⟩ S')
      · have z := p'.2.2.1
        rw [List.append_assoc] at z
        exact z
      · rw [p'.2.2.2]; omega
  exact J k h C Y X b0 lw lc o0 S K
theorem RdM.nots {h0 h h' : PH} {T : Int → Int} {n : Int} {L : List Tok} {i o k : Nat} {b : Int} {W C : List Int} (R : RdM h0 h T n L i o b (W ++ List.replicate k 16) C) (ko : k ≤ o) (p : Keep dnA h h' ∧ StkM h' W ∧ CodM h' (C ++ List.replicate k 16) ∧ gv h' 66 29 = gv h 66 29 - k) : RdM h0 h' T n L i (o - k) b W (C ++ List.replicate k 16) := by
  obtain ⟨k1, s, c, e⟩ := p
  obtain ⟨r1, ⟨r2, r3⟩, r4, r5, r6, r7, r8, r9, r10, r11⟩ := R
  rw [List.length_append, List.length_replicate] at r10
  exact ⟨r1.trans (k1.wide dnA_rtA), ⟨r2.kp (k1.1 66 3 rfl) (fun i => k1.1 67 i rfl), r3.kp k1 (fun a i x y => decide_eq_false (by omega))⟩, r4.of (k1.1 66 2 rfl) (k1.1 66 4 rfl), (k1.1 66 5 rfl).trans r5, by rw [e, r6]; omega, (k1.1 66 30 rfl).trans r7, s, c, by rw [List.length_append, List.length_replicate]; omega, by omega, (k1.1 66 6 rfl).trans r11.2⟩
theorem m_hasSq {d : Nat} {h : PH} {q : PQ} (S : Shape h) {V : List Int} (Y : StkM h V) (lv : V.length ≤ 799) (K1 : 25 ∈ V → q (some (.inl 1)) h) (K2 : ¬ 25 ∈ V → q (some (.inl 0)) h) : Wp (d + 1) 0 0 M_X12_hasSquare 0 [some (.inr (.inr 66)), none] [] h q := by
  have y1 := Y.1
  have J : ∀ (c kk : Nat) (k : Int), k = kk → kk + c = V.length → (∀ j : Nat, j < kk → V[j]? ≠ some 25) → Wp (d + 1) 0 0 M_X12_hasSquare 2 [some (.inr (.inr 66)), some (.inl k)] [] h q := by
    intro c
    induction c with
    | zero =>
      intro kk k hk hc no
      refine p_iload 3 rfl rfl rfl ?_
      refine p_aload 4 rfl rfl rfl ?_
      refine p_getfi (j := 28) (z := (V.length : Int)) 7 rfl rfl rfl (tg_66 S) rfl y1 ?_
      refine p_ic_ge_t 29 rfl rfl (by omega) ?_
      refine p_const 30 rfl rfl ?_
      refine p_zret rfl rfl (by decide) ?_
      -- leaf 1: answer [.inl 0] h=h 
      refine K2 (fun z => ?_)
      obtain ⟨j, j1, j2⟩ := List.getElem_of_mem z
      exact no j (by omega) (by rw [List.getElem?_eq_getElem j1, j2])
    | succ c ih =>
      intro kk k hk hc no
      have hg : V[kk]? = some (V[kk]'(by omega)) := List.getElem?_eq_getElem (by omega)
      have hm : V[kk]'(by omega) ∈ V := List.getElem_mem _
      generalize V[kk]'(by omega) = x at hg hm
      have e85 : gv h 85 k = x := by rw [hk]; exact Y.2 kk x hg
      refine p_iload 3 rfl rfl rfl ?_
      refine p_aload 4 rfl rfl rfl ?_
      refine p_getfi (j := 28) (z := (V.length : Int)) 7 rfl rfl rfl (tg_66 S) rfl y1 ?_
      refine p_ic_ge_f 10 rfl rfl (by omega) ?_
      refine p_aload 11 rfl rfl rfl ?_
      refine p_getfr (j := 27) (z := 85) 14 rfl rfl rfl (tg_66 S) rfl (fi_66_27 S) ?_
      refine p_iload 15 rfl rfl rfl ?_
      refine p_iald (w := 800) (z := x) 16 rfl rfl (tg_85 S) (ln_85 S) (by omega) (by omega) e85 ?_
      refine p_const 18 rfl rfl ?_
      refine p_ic_ne 21 23 rfl rfl rfl (fun c1 => ?_) (fun c1 => ?_)
      · skip
        refine p_iinc (y := k + 1) (ls' := [some (.inr (.inr 66)), some (.inl (k + 1))]) 26 rfl rfl rfl (w32_id ⟨(by omega), (by omega)⟩) rfl ?_
        refine p_goto 2 rfl rfl ?_
        -- leaf 1: loop 2 [some (.inr (.inr 66)), some (.inl (k + 1))] st=[] h=h 
        refine ih (kk + 1) (k + 1) (by omega) (by omega) (fun j hj z => ?_)
        by_cases e : j = kk
        · rw [e, hg] at z
          cases z
          exact c1 rfl
        · exact no j (by omega) z
      · skip
        refine p_const 22 rfl rfl ?_
        refine p_zret rfl rfl (by decide) ?_
        -- leaf 2: answer [.inl 1] h=h 
        have ex : x = 25 := by omega
        subst ex
        exact K1 hm
  refine p_const 1 rfl rfl ?_
  refine p_istore (ls' := [some (.inr (.inr 66)), some (.inl 0)]) 2 rfl rfl (Nat.le_of_ble_eq_true rfl) rfl ?_
  -- leaf 1: loop 2 [some (.inr (.inr 66)), some (.inl 0)] st=[] h=h 
  exact J V.length 0 0 rfl (Nat.zero_add _) (fun j hj => absurd hj (Nat.not_lt_zero j))
theorem m_hasSqP {d : Nat} {h : PH} {q : PQ} (S : Shape h) {V : List Int} (Y : StkM h V) (lv : V.length ≤ 799) (K : ∀ r, ((25 ∈ V ∧ r = 1) ∨ (¬ 25 ∈ V ∧ r = 0)) → q (some (.inl r)) h) : Wp (d + 1) 0 0 M_X12_hasSquare 0 [some (.inr (.inr 66)), none] [] h q :=
  m_hasSq S Y lv (fun z => K _ (Or.inl ⟨z, rfl⟩)) (fun z => K _ (Or.inr ⟨z, rfl⟩))

