/-! THE LINE, the class's side -/
theorem row_tg {h : PH} (S : Shape h) {s : Int} (s0 : 0 ≤ s) (s1 : s < 9) : tg h (40 + s) = 100 := by
  rcases (show s = 0 ∨ s = 1 ∨ s = 2 ∨ s = 3 ∨ s = 4 ∨ s = 5 ∨ s = 6 ∨ s = 7 ∨ s = 8 by omega) with rfl | rfl | rfl | rfl | rfl | rfl | rfl | rfl | rfl <;> exact (S.2.1 _ (by decide) (by decide)).1
theorem row_ln {h : PH} (S : Shape h) {s : Int} (s0 : 0 ≤ s) (s1 : s < 9) : ln h (40 + s) = 240 := by
  rcases (show s = 0 ∨ s = 1 ∨ s = 2 ∨ s = 3 ∨ s = 4 ∨ s = 5 ∨ s = 6 ∨ s = 7 ∨ s = 8 by omega) with rfl | rfl | rfl | rfl | rfl | rfl | rfl | rfl | rfl <;> exact (S.2.1 _ (by decide) (by decide)).2
theorem row_fa {s : Int} (s0 : 0 ≤ s) (s1 : s < 9) : finA (40 + s) = true := by
  rcases (show s = 0 ∨ s = 1 ∨ s = 2 ∨ s = 3 ∨ s = 4 ∨ s = 5 ∨ s = 6 ∨ s = 7 ∨ s = 8 by omega) with rfl | rfl | rfl | rfl | rfl | rfl | rfl | rfl | rfl <;> decide +kernel
theorem x_fillI {d : Nat} {h : PH} {q : PQ} (S : Shape h) (a v w : Int) (a2 : 2 ≤ a) (ha : finA a = true) (ht : tg h a = 100) (hl : ln h a = w) (w0 : 0 ≤ w) (w1 : w < 100000) (K : ∀ h', (Keep (fun b _ => decide (b = a)) h h' ∧ ∀ i, 0 ≤ i → i < w → gv h' a i = v) → Shape h' → q none h') :
    Wp (d + 1) 0 0 M_J7_fill_53178 0 [some (.inr (.inr a)), some (.inl v), none, none] [] h q := by
  have L : ∀ (c : Nat) (k : Int) (h1 : PH), k + c = w → 0 ≤ k → Shape h1 → Keep (fun b _ => decide (b = a)) h h1 → (∀ i, 0 ≤ i → i < k → gv h1 a i = v) → Wp (d + 1) 0 0 M_J7_fill_53178 5 [some (.inr (.inr a)), some (.inl v), some (.inl k), some (.inl w)] [] h1 q := by
    intro c
    induction c with
    | zero =>
      intro k h1 hk k0 S1 kp e
      refine p_iload 6 rfl rfl rfl ?_
      refine p_iload 7 rfl rfl rfl ?_
      refine p_ic_ge_t 20 rfl rfl (by omega) ?_
      refine p_ret rfl rfl ?_
      exact K h1 ⟨kp, fun i i0 i1 => e i i0 (by omega)⟩ S1
    | succ c ih =>
      intro k h1 hk k0 S1 kp e
      have t1 : tg h1 a = 100 := (kp.2.2.1 a).trans ht
      have l1 : ln h1 a = w := (kp.2.2.2 a).trans hl
      refine p_iload 6 rfl rfl rfl ?_
      refine p_iload 7 rfl rfl rfl ?_
      refine p_ic_ge_f 10 rfl rfl (by omega) ?_
      refine p_aload 11 rfl rfl rfl ?_
      refine p_iload 12 rfl rfl rfl ?_
      refine p_iload 13 rfl rfl rfl ?_
      refine p_iast (w := w) 14 rfl rfl a2 t1 l1 k0 (by omega) ?_
      refine p_iinc (y := k + 1) (ls' := [some (.inr (.inr a)), some (.inl v), some (.inl (k + 1)), some (.inl w)]) 17 rfl rfl rfl (w32_id ⟨by omega, by omega⟩) rfl ?_
      refine p_goto 5 rfl rfl ?_
      refine ih (k + 1) _ (by omega) (by omega) (S1.svA ha _ _) (kp.sv (decide_eq_true rfl) _) ?_
      intro i i0 i1
      by_cases z : i = k
      · rw [z]; exact sv_eq _ _ _ _
      · rw [sv_nf z]; exact e i i0 (by omega)
  refine p_const 1 rfl rfl ?_
  refine p_istore (ls' := [some (.inr (.inr a)), some (.inl v), some (.inl 0), none]) 2 rfl rfl (Nat.le_of_ble_eq_true rfl) rfl ?_
  refine p_aload 3 rfl rfl rfl ?_
  refine p_alen (w := w) 4 rfl rfl (by rw [ht]; decide) hl ?_
  refine p_istore (ls' := [some (.inr (.inr a)), some (.inl v), some (.inl 0), some (.inl w)]) 5 rfl rfl (Nat.le_of_ble_eq_true rfl) rfl ?_
  exact L w.toNat 0 h (by omega) (Int.le_refl 0) S (Keep.rf _ _) (fun i i0 i1 => by omega)
theorem sv_off {h : PH} {a i v b j : Int} (hb : b ≠ a ∨ j ≠ i) : gv (sv h a i v) b j = gv h b j := by
  rcases hb with z | z
  · exact sv_ne z
  · exact sv_nf z
def QX (h : PH) (s : Int) (q : List Int) (tl : Int) : Prop := gv h 50 s = tl ∧ gv h 49 s = tl - q.length ∧ ∀ (j : Nat) w, q[j]? = some w → gv h (40 + s) (tl - q.length + j) = w
def CEX (h : PH) (s : Int) (u : LnS) : Prop := gv h 51 s = Lal u s ∧ (Lal u s ≠ 0 → gv h 52 s = Lfr u s) ∧ gv h 53 s = Llo u s ∧ gv h 54 s = Lgt u s ∧ gv h 55 s = Lga u s ∧ gv h 56 s = Lgo u s ∧ gv h 57 s = Llo u s
def LX (h : PH) (last : Int) (u : LnS) : Prop := gv h 38 3 = last ∧ (∀ s, 0 ≤ s → s < last → QX h s (Lq u s) (Ltl u s)) ∧ (∀ s, 0 ≤ s → s ≤ last → CEX h s u) ∧ gv h 38 15 = (Lhd u).length ∧ ∀ (j : Nat) w, (Lhd u)[j]? = some w → gv h 58 j = w
theorem LX.chg {h1 h' : PH} {last s : Int} {u v : LnS} (L : LX h1 last u) (e : ∀ b i, (40 ≤ b ∧ b ≤ 58) ∧ ((b ≤ 48 ∧ b ≠ 40 + s) ∨ (49 ≤ b ∧ i ≠ s) ∨ b = 58) → gv h' b i = gv h1 b i) (e3 : gv h' 38 3 = gv h1 38 3) (e15 : gv h' 38 15 = gv h1 38 15)
    (ev : ∀ x, x ≠ s → Lq v x = Lq u x ∧ Ltl v x = Ltl u x ∧ Lal v x = Lal u x ∧ Lfr v x = Lfr u x ∧ Llo v x = Llo u x ∧ Lgt v x = Lgt u x ∧ Lga v x = Lga u x ∧ Lgo v x = Lgo u x) (eh : Lhd v = Lhd u) (hq : s < last → QX h' s (Lq v s) (Ltl v s)) (hc : CEX h' s v) (l9 : last ≤ 9) : LX h' last v := by
  obtain ⟨a, b, c, d, f⟩ := L
  refine ⟨e3.trans a, fun x x0 x1 => ?_, fun x x0 x1 => ?_, by rw [eh]; exact e15.trans d, fun j w hj => ?_⟩
  · by_cases z : x = s
    · subst z; exact hq x1
    · obtain ⟨y1, y2, y3⟩ := b x x0 x1
      obtain ⟨v1, v2, _⟩ := ev x z
      unfold QX
      rw [v1, v2, e 50 x (by omega), e 49 x (by omega)]
      exact ⟨y1, y2, fun j w hj => by rw [e _ _ (by omega)]; exact y3 j w hj⟩
  · by_cases z : x = s
    · subst z; exact hc
    · obtain ⟨_, _, v3, v4, v5, v6, v7, v8⟩ := ev x z
      have y := c x x0 x1
      unfold CEX at y ⊢
      rw [v3, v4, v5, v6, v7, v8, e 51 x (by omega), e 52 x (by omega), e 53 x (by omega), e 54 x (by omega), e 55 x (by omega), e 56 x (by omega), e 57 x (by omega)]
      exact y
  · rw [e 58 _ (by omega)]; exact f j w (by rw [← eh]; exact hj)
theorem LX.kp {h1 h' : PH} {last : Int} {u : LnS} (L : LX h1 last u) (e : ∀ b i, (40 ≤ b ∧ b ≤ 58) ∨ (b = 38 ∧ (i = 3 ∨ i = 15)) → gv h' b i = gv h1 b i) (l9 : last ≤ 9) : LX h' last u := by
  obtain ⟨a, b, c, d, f⟩ := L
  refine ⟨(e 38 3 (by omega)).trans a, fun x x0 x1 => ?_, fun x x0 x1 => ?_, (e 38 15 (by omega)).trans d, fun j w hj => (e 58 _ (by omega)).trans (f j w hj)⟩
  · obtain ⟨y1, y2, y3⟩ := b x x0 x1
    exact ⟨(e 50 x (by omega)).trans y1, (e 49 x (by omega)).trans y2, fun j w hj => (e _ _ (by omega)).trans (y3 j w hj)⟩
  · have y := c x x0 x1
    unfold CEX at y ⊢
    rw [e 51 x (by omega), e 52 x (by omega), e 53 x (by omega), e 54 x (by omega), e 55 x (by omega), e 56 x (by omega), e 57 x (by omega)]
    exact y
def lxA (a i : Int) : Bool := decide ((24 ≤ a ∧ a ≤ 37) ∨ (a = 38 ∧ (i = 3 ∨ i = 15)) ∨ (40 ≤ a ∧ a ≤ 58))
theorem lxA_bkB : ∀ a i, bkB a i = false → lxA a i = false := fun a i => dw (by omega)
theorem lxA_b : ∀ a i, (128 : Int) ≤ a → lxA a i = false := fun a i h => decide_eq_false (by omega)
theorem xA_lxA : ∀ a i, lxA a i = false → xA a i = false := fun a i => dw (by omega)
theorem pA_lxA : ∀ a i, lxA a i = false → pA a i = false := fun a i => dw (by omega)
theorem gsA_lxA : ∀ a i, lxA a i = false → gsA a i = false := fun a i => dw (by omega)
theorem plA_lxA : ∀ a i, lxA a i = false → plA a i = false := fun a i => dw (by omega)
theorem amA_lxA : ∀ a i, lxA a i = false → amA a i = false := fun a i => dw (by omega)
theorem x_dimAt {d : Nat} {h : PH} {q : PQ} (S : Shape h) (s t : Int) (F : FI h) (hs : 0 ≤ s ∧ s < 9) (ht : 0 ≤ t ∧ t < 1000) (K : q (some (.inl (dmF h s t))) h) : Wp (d + 2) 0 0 M_X8_dimAt 0 [some (.inr (.inr 5)), some (.inl s), some (.inl t)] [] h q := by
  have a := F.f8 s hs.1 hs.2
  have b := F.h10 t ht.1 ht.2
  unfold dmF at K
  refine p_aload 1 rfl rfl rfl ?_
  refine p_getfr (j := 2) (z := 8) 4 rfl rfl rfl (tg_5 S) rfl (fi_5_2 S) ?_
  refine p_iload 5 rfl rfl rfl ?_
  refine p_iald (w := 10) (z := gv h 8 s) 6 rfl rfl (tg_8 S) (ln_8 S) (by omega) (by omega) rfl ?_
  refine p_aload 7 rfl rfl rfl ?_
  refine p_iload 8 rfl rfl rfl ?_
  refine p_callv (le := [some (.inr (.inr 5)), some (.inl t)]) (as := [.inr (.inr 5), .inl t]) (rest := [.inl (gv h 8 s)]) 11 0 0 0 0 rfl rfl (Nat.le_of_ble_eq_true rfl) rfl (Nat.le_of_ble_eq_true rfl) rfl rfl (Nat.le_of_ble_eq_true rfl) rfl (Nat.le_of_ble_eq_true rfl) rfl (Nat.le_refl _) (Nat.le_refl _) rfl rfl (tg_5 S) ?_
  refine p_iload 1 rfl rfl rfl ?_
  refine p_if_lt_f 4 rfl rfl (by omega) ?_
  refine p_iload 5 rfl rfl rfl ?_
  refine p_const 8 rfl rfl ?_
  refine p_ic_ge_f 11 rfl rfl (by omega) ?_
  refine p_aload 12 rfl rfl rfl ?_
  refine p_getfr (j := 4) (z := 10) 15 rfl rfl rfl (tg_5 S) rfl (fi_5_4 S) ?_
  refine p_iload 16 rfl rfl rfl ?_
  refine p_iald (w := 1000) (z := gv h 10 t) 17 rfl rfl (tg_10 S) (ln_10 S) (by omega) (by omega) rfl ?_
  refine p_const 18 rfl rfl ?_
  refine p_ishr (z := (gv h 10 t) / 2) 19 rfl rfl (by decide) (by decide) rfl ?_
  refine p_goto 23 rfl rfl ?_
  refine p_iret rfl rfl ?_
  show Wp (d + 2) 0 0 M_X8_dimAt 11 [some (.inr (.inr 5)), some (.inl s), some (.inl t)] [.inl ((gv h 10 t) / 2), .inl (gv h 8 s)] h _
  refine p_iadd (z := (gv h 8 s) + ((gv h 10 t) / 2)) 12 rfl rfl (w32_id ⟨(by omega), (by omega)⟩) ?_
  refine p_iret rfl rfl ?_
  -- leaf 1: answer [.inl ((gv h 8 s) + ((gv h 10 t) / 2))] h=h 
  rw [b.2.2]; exact K
theorem dmF_congr {h h' : PH} (K : Keep bkB h h') {s : Int} (t : Int) : dmF h' s t = dmF h s t := by unfold dmF; rw [K.1 8 s rfl, zh_congr K]
theorem SQs_eq {h h' : PH} (K : Keep bkB h h') (k s t w : Int) : SeenQ h' (Ws h' k s t (zh h t)) (dmF h' s t) w = SQs h k s t w := by
  unfold SQs; rw [Ws_congr K, SeenQ_congr K, dmF_congr K]
theorem x_fly {d : Nat} {h : PH} {q : PQ} {a k last st s t : Int} {u : LnS} {h1 : PH} (R : BkR h a k) (F : FI h) (S1 : Shape h1) (k1 : Keep lxA h h1) (X : LX h1 last u) (L : LI last st s t u) (hs : 0 ≤ s ∧ s < last) (l9 : last ≤ 9) (ht : 0 ≤ t ∧ t < 1000) (t3 : t < st + 300)
    (K : ∀ r h', (Keep lxA h h' ∧ ((r = -1 ∧ LX h' last (lstp h k last s t u)) ∨ ∃ l, Lal u s ≠ 0 ∧ ¬ t < Lfr u s ∧ only (SQs h k s t (Lal u s)) l ∧ r = enc l ∧ LX h' last (readL s u))) → Shape h' → q (some (.inl r)) h') :
    Wp (d + 9) 0 0 M_X6_fly 0 [some (.inr (.inr 38)), some (.inr (.inr a)), some (.inl s), some (.inl t)] [] h1 q := by
  have X0 := X
  obtain ⟨X1, X2, X3, X4, X5⟩ := X
  obtain ⟨q1, q2, q3⟩ := X2 s hs.1 hs.2
  obtain ⟨e51, e52, e53, e54, e55, e56, e57⟩ := X3 s hs.1 (by omega)
  have Lb := L.2.1 s hs.1 (by omega)
  have La := (L.1 s hs.1 hs.2).1
  have gt := L.gt240 (by omega) t3
  have g0 := gt s hs.1 (by omega)
  have kB := k1.wide lxA_bkB
  have t1 : tau s t s = t := if_neg (by omega)
  rw [t1] at La Lb
  have tl240 : Ltl u s ≤ 240 := by
    have := Lb.2.1
    split at this <;> omega
  have zhi := zh_in F ht.1 ht.2
  refine p_aload 1 rfl rfl rfl ?_
  refine p_getfr (j := 7) (z := 51) 4 rfl rfl rfl (tg_38 S1) rfl (fi_38_7 S1) ?_
  refine p_iload 5 rfl rfl rfl ?_
  refine p_iald (w := 10) (z := (Lal u s)) 6 rfl rfl (tg_51 S1) (ln_51 S1) (by omega) (by omega) e51 ?_
  refine p_if_ne 9 17 rfl rfl rfl (fun c1 => ?_) (fun c1 => ?_)
  · skip
    refine p_iload 18 rfl rfl rfl ?_
    refine p_aload 19 rfl rfl rfl ?_
    refine p_getfr (j := 8) (z := 52) 22 rfl rfl rfl (tg_38 S1) rfl (fi_38_8 S1) ?_
    refine p_iload 23 rfl rfl rfl ?_
    refine p_iald (w := 10) (z := gv h1 52 s) 24 rfl rfl (tg_52 S1) (ln_52 S1) (by omega) (by omega) rfl ?_
    refine p_ic_ge 27 29 rfl rfl rfl (fun c2 => ?_) (fun c2 => ?_)
    · skip
      refine p_aload 30 rfl rfl rfl ?_
      refine p_getfr (j := 1) (z := 24) 33 rfl rfl rfl (tg_38 S1) rfl (fi_38_1 S1) ?_
      refine p_aload 34 rfl rfl rfl ?_
      refine p_iload 35 rfl rfl rfl ?_
      refine p_iload 36 rfl rfl rfl ?_
      refine p_callv (le := [some (.inr (.inr 24)), some (.inr (.inr a)), some (.inl s), some (.inl t), none]) (as := [.inr (.inr 24), .inr (.inr a), .inl s, .inl t]) (rest := []) 39 0 0 0 0 rfl rfl (Nat.le_of_ble_eq_true rfl) rfl (Nat.le_of_ble_eq_true rfl) rfl rfl (Nat.le_of_ble_eq_true rfl) rfl (Nat.le_of_ble_eq_true rfl) rfl (Nat.le_refl _) (Nat.le_refl _) rfl rfl (tg_24 S1) ?_
      refine x_prepare S1 a s t (R.kp kB) (F.kp kB) (by omega) ht (fun y3 p3 S3 => ?_)
      have kp3 : Keep lxA h y3 := k1.trans (p3.1.wide pA_lxA)
      show Wp (d + 9) 0 0 M_X6_fly 39 [some (.inr (.inr 38)), some (.inr (.inr a)), some (.inl s), some (.inl t)] [] y3 _
      refine p_aload 40 rfl rfl rfl ?_
      refine p_getfr (j := 1) (z := 24) 43 rfl rfl rfl (tg_38 S3) rfl (fi_38_1 S3) ?_
      refine p_const 44 rfl rfl ?_
      refine p_callv (le := [some (.inr (.inr 24)), some (.inl 2)]) (as := [.inr (.inr 24), .inl 2]) (rest := []) 47 0 0 0 0 rfl rfl (Nat.le_of_ble_eq_true rfl) rfl (Nat.le_of_ble_eq_true rfl) rfl rfl (Nat.le_of_ble_eq_true rfl) rfl (Nat.le_of_ble_eq_true rfl) rfl (Nat.le_refl _) (Nat.le_refl _) rfl rfl (tg_24 S3) ?_
      refine p_aload 1 rfl rfl rfl ?_
      refine p_const 2 rfl rfl ?_
      refine p_putfi (j := 9) 5 rfl rfl rfl (fun z => absurd z (by decide)) (tg_24 S3) rfl ?_
      refine p_nmh (fun y4 e4 => ?_)
      have S4 : Shape y4 := by rw [e4]; exact S3.svF ff_24_9 _
      have kp4 : Keep lxA h y4 := by rw [e4]; exact kp3.sv rfl _
      refine p_aload 6 rfl rfl rfl ?_
      refine p_iload 7 rfl rfl rfl ?_
      refine p_aload 8 rfl rfl rfl ?_
      refine p_getfr (j := 8) (z := 28) 11 rfl rfl rfl (tg_24 S4) rfl (fi_24_8 S4) ?_
      refine p_alen (w := 100) 12 rfl rfl (by rw [(tg_28 S4)]; decide) (ln_28 S4) ?_
      refine p_mini (z := min 2 100) 15 rfl rfl (Nat.succ_pos _) (Nat.le_of_ble_eq_true rfl) rfl ?_
      refine p_putfi (j := 10) 18 rfl rfl rfl (fun z => absurd z (by decide)) (tg_24 S4) rfl ?_
      refine p_nmh (fun y5 e5 => ?_)
      have S5 : Shape y5 := by rw [e5]; exact S4.svF ff_24_10 _
      have kp5 : Keep lxA h y5 := by rw [e5]; exact kp4.sv rfl _
      refine p_ret rfl rfl ?_
      show Wp (d + 9) 0 0 M_X6_fly 47 [some (.inr (.inr 38)), some (.inr (.inr a)), some (.inl s), some (.inl t)] [] y5 _
      have kB3 := kp3.wide lxA_bkB
      have Pr3 := p3.2
      rw [zh_congr kB] at Pr3
      have K35 : Keep gsA y3 y5 := by rw [e5, e4]; exact ((Keep.rf _ _).sv rfl _).sv rfl _
      have Pr5 := Pr3.kp K35 gsA_prep
      have kB5 := kp5.wide lxA_bkB
      have RX : RowsX y5 [] 2 := RowsX.nil (by rw [e5, sv_nf (by decide), e4, sv_eq]) (by rw [e5, sv_eq]; decide) (by decide)
      have w3 : gv y3 51 s = Lal u s := (p3.1.1 51 s rfl).trans e51
      have g : isHo (Lal u s) := by
        rcases La with ⟨b, _⟩ | b
        · exact absurd b c1
        · exact b.1
      have g5 : isHo (gv y3 51 s) := by rw [w3]; exact g
      refine p_aload 48 rfl rfl rfl ?_
      refine p_getfr (j := 1) (z := 24) 51 rfl rfl rfl (tg_38 S5) rfl (fi_38_1 S5) ?_
      refine p_aload 52 rfl rfl rfl ?_
      refine p_getfr (j := 7) (z := 51) 55 rfl rfl rfl (tg_38 S5) rfl (fi_38_7 S5) ?_
      refine p_iload 56 rfl rfl rfl ?_
      refine p_iald (w := 10) (z := gv y3 51 s) 57 rfl rfl (tg_51 S5) (ln_51 S5) (by omega) (by omega) (by rw [e5, sv_ne (by decide)]; rw [e4, sv_ne (by decide)]) ?_
      refine p_aload 58 rfl rfl rfl ?_
      refine p_getfr (j := 0) (z := 5) 61 rfl rfl rfl (tg_38 S5) rfl (fi_38_0 S5) ?_
      refine p_iload 62 rfl rfl rfl ?_
      refine p_iload 63 rfl rfl rfl ?_
      refine p_callv (le := [some (.inr (.inr 5)), some (.inl s), some (.inl t)]) (as := [.inr (.inr 5), .inl s, .inl t]) (rest := [.inl (gv y3 51 s), .inr (.inr 24)]) 66 0 0 0 0 rfl rfl (Nat.le_of_ble_eq_true rfl) rfl (Nat.le_of_ble_eq_true rfl) rfl rfl (Nat.le_of_ble_eq_true rfl) rfl (Nat.le_of_ble_eq_true rfl) rfl (Nat.le_refl _) (Nat.le_refl _) rfl rfl (tg_5 S5) ?_
      refine x_dimAt S5 s t (F.kp (kp5.wide lxA_bkB)) (by omega) ht ?_
      show Wp (d + 9) 0 0 M_X6_fly 66 [some (.inr (.inr 38)), some (.inr (.inr a)), some (.inl s), some (.inl t)] [.inl (dmF y5 s t), .inl (gv y3 51 s), .inr (.inr 24)] y5 _
      refine p_callv (le := [some (.inr (.inr 24)), some (.inl (gv y3 51 s)), some (.inl (dmF y5 s t)), none, none, none]) (as := [.inr (.inr 24), .inl (gv y3 51 s), .inl (dmF y5 s t)]) (rest := []) 69 0 0 0 0 rfl rfl (Nat.le_of_ble_eq_true rfl) rfl (Nat.le_of_ble_eq_true rfl) rfl rfl (Nat.le_of_ble_eq_true rfl) rfl (Nat.le_of_ble_eq_true rfl) rfl (Nat.le_refl _) (Nat.le_refl _) rfl rfl (tg_24 S5) ?_
      refine x_gatherSeen S5 (gv y3 51 s) (dmF y5 s t) (R.kp kB5) Pr5 (F.kp kB5) g5 RX (fun y7 p7 S7 => ?_)
      have kp7 : Keep lxA h y7 := kp5.trans (p7.1.wide gsA_lxA)
      show Wp (d + 9) 0 0 M_X6_fly 69 [some (.inr (.inr 38)), some (.inr (.inr a)), some (.inl s), some (.inl t)] [] y7 _
      obtain ⟨k7, L', r7, x7⟩ := p7
      rw [SQs_eq kB5, w3] at x7
      have o7 : ∀ b i, 38 ≤ b ∧ b ≤ 58 → gv y7 b i = gv h1 b i := fun b i z => by rw [k7.1 b i (decide_eq_false (by omega)), K35.1 b i (decide_eq_false (by omega)), p3.1.1 b i (decide_eq_false (by omega))]
      have f52 : gv y7 52 s = Lfr u s := (o7 52 s (by omega)).trans (e52 c1)
      have f56 : gv y7 56 s = Lgo u s := (o7 56 s (by omega)).trans e56
      have f50 : gv y7 50 s = Ltl u s := (o7 50 s (by omega)).trans q1
      have r9 := r7.1
      have c2' : ¬ t < Lfr u s := by rw [← e52 c1]; omega
      have La' : st ≤ Lfr u s - rl (Lal u s) ∧ Lfr u s - rl (Lal u s) < t ∧ t ≤ Lfr u s + 19 := by
        rcases La with ⟨b, _⟩ | b
        · exact absurd b c1
        · exact ⟨b.2.1, b.2.2.1, b.2.2.2.1⟩
      have rb := rl_in (Lal u s)
      refine p_aload 70 rfl rfl rfl ?_
      refine p_getfr (j := 1) (z := 24) 73 rfl rfl rfl (tg_38 S7) rfl (fi_38_1 S7) ?_
      refine p_getfi (j := 9) (z := gv y7 24 9) 76 rfl rfl rfl (tg_24 S7) rfl rfl ?_
      refine p_const 77 rfl rfl ?_
      refine p_ic_ne 80 107 rfl rfl rfl (fun c8 => ?_) (fun c8 => ?_)
      · skip
        refine p_iload 108 rfl rfl rfl ?_
        refine p_aload 109 rfl rfl rfl ?_
        refine p_getfr (j := 8) (z := 52) 112 rfl rfl rfl (tg_38 S7) rfl (fi_38_8 S7) ?_
        refine p_iload 113 rfl rfl rfl ?_
        refine p_iald (w := 10) (z := (Lfr u s)) 114 rfl rfl (tg_52 S7) (ln_52 S7) (by omega) (by omega) f52 ?_
        refine p_isub (z := t - (Lfr u s)) 115 rfl rfl (w32_id ⟨(by omega), (by omega)⟩) ?_
        refine p_const 117 rfl rfl ?_
        refine p_ic_lt 120 144 rfl rfl rfl (fun c9 => ?_) (fun c9 => ?_)
        · skip
          refine p_const 145 rfl rfl ?_
          refine p_iret rfl rfl ?_
          -- leaf 1: answer [.inl (-1)] h=y7  kp7
          exact K _ _ ⟨kp7, Or.inl ⟨rfl, by rw [lstp_stay c1 c2' (x7.not_only (by omega)) (by omega)]; exact X0.kp (fun b i z => o7 b i (by omega)) l9⟩⟩ S7
        · skip
          refine p_aload 121 rfl rfl rfl ?_
          refine p_getfr (j := 7) (z := 51) 124 rfl rfl rfl (tg_38 S7) rfl (fi_38_7 S7) ?_
          refine p_iload 125 rfl rfl rfl ?_
          refine p_const 126 rfl rfl ?_
          refine p_iast (w := 10) 127 rfl rfl (by decide) (tg_51 S7) (ln_51 S7) (by omega) (by omega) ?_
          refine p_nmh (fun y10 e10 => ?_)
          have S10 : Shape y10 := by rw [e10]; exact S7.svA fa_51 _ _
          have kp10 : Keep lxA h y10 := by rw [e10]; exact kp7.sv rfl _
          refine p_aload 128 rfl rfl rfl ?_
          refine p_getfr (j := 5) (z := 49) 131 rfl rfl rfl (tg_38 S10) rfl (fi_38_5 S10) ?_
          refine p_iload 132 rfl rfl rfl ?_
          refine p_aload 133 rfl rfl rfl ?_
          refine p_getfr (j := 6) (z := 50) 136 rfl rfl rfl (tg_38 S10) rfl (fi_38_6 S10) ?_
          refine p_iload 137 rfl rfl rfl ?_
          refine p_iald (w := 10) (z := (Ltl u s)) 138 rfl rfl (tg_50 S10) (ln_50 S10) (by omega) (by omega) (by rw [e10, sv_ne (by decide)]; exact f50) ?_
          refine p_iast (w := 10) 139 rfl rfl (by decide) (tg_49 S10) (ln_49 S10) (by omega) (by omega) ?_
          refine p_nmh (fun y11 e11 => ?_)
          have S11 : Shape y11 := by rw [e11]; exact S10.svA fa_49 _ _
          have kp11 : Keep lxA h y11 := by rw [e11]; exact kp10.sv rfl _
          refine p_aload 140 rfl rfl rfl ?_
          refine p_iload 141 rfl rfl rfl ?_
          refine p_callv (le := [some (.inr (.inr 38)), some (.inl s)]) (as := [.inr (.inr 38), .inl s]) (rest := []) 144 0 0 0 0 rfl rfl (Nat.le_of_ble_eq_true rfl) rfl (Nat.le_of_ble_eq_true rfl) rfl rfl (Nat.le_of_ble_eq_true rfl) rfl (Nat.le_of_ble_eq_true rfl) rfl (Nat.le_refl _) (Nat.le_refl _) rfl rfl (tg_38 S11) ?_
          refine p_aload 1 rfl rfl rfl ?_
          refine p_getfr (j := 13) (z := 57) 4 rfl rfl rfl (tg_38 S11) rfl (fi_38_13 S11) ?_
          refine p_iload 5 rfl rfl rfl ?_
          refine p_const 6 rfl rfl ?_
          refine p_zast (w := 10) 7 rfl rfl (by decide) (tg_57 S11) (ln_57 S11) (by omega) (by omega) (by decide) ?_
          refine p_nmh (fun y12 e12 => ?_)
          have S12 : Shape y12 := by rw [e12]; exact S11.svA fa_57 _ _
          have kp12 : Keep lxA h y12 := by rw [e12]; exact kp11.sv rfl _
          refine p_aload 8 rfl rfl rfl ?_
          refine p_getfr (j := 9) (z := 53) 11 rfl rfl rfl (tg_38 S12) rfl (fi_38_9 S12) ?_
          refine p_iload 12 rfl rfl rfl ?_
          refine p_const 13 rfl rfl ?_
          refine p_zast (w := 10) 14 rfl rfl (by decide) (tg_53 S12) (ln_53 S12) (by omega) (by omega) (by decide) ?_
          refine p_nmh (fun y13 e13 => ?_)
          have S13 : Shape y13 := by rw [e13]; exact S12.svA fa_53 _ _
          have kp13 : Keep lxA h y13 := by rw [e13]; exact kp12.sv rfl _
          refine p_ret rfl rfl ?_
          show Wp (d + 9) 0 0 M_X6_fly 144 [some (.inr (.inr 38)), some (.inr (.inr a)), some (.inl s), some (.inl t)] [] y13 _
          refine p_const 145 rfl rfl ?_
          refine p_iret rfl rfl ?_
          -- leaf 2: answer [.inl (-1)] h=y13 e13,e12,e11,e10 kp13
          refine K _ _ ⟨kp13, Or.inl ⟨rfl, ?_⟩⟩ S13
          rw [lstp_lose c1 c2' (x7.not_only (by omega)) (by omega)]
          refine X0.chg (s := s) (fun b i z => ?_) ?_ ?_ (fun x hx => ⟨up_ne hx, rfl, up_ne hx, rfl, up_ne hx, rfl, rfl, rfl⟩) rfl (fun _ => ?_) ?_ l9
          · rw [e13, sv_off (by omega), e12, sv_off (by omega), e11, sv_off (by omega), e10, sv_off (by omega)]; exact o7 b i (by omega)
          · rw [e13, sv_ne (by decide), e12, sv_ne (by decide), e11, sv_ne (by decide), e10, sv_ne (by decide)]; exact o7 38 3 (by omega)
          · rw [e13, sv_ne (by decide), e12, sv_ne (by decide), e11, sv_ne (by decide), e10, sv_ne (by decide)]; exact o7 38 15 (by omega)
          · show QX _ s (up (Lq u) s [] s) (Ltl u s)
            rw [up_eq]
            refine ⟨?_, ?_, fun j w hj => by cases hj⟩
            · rw [e13, sv_ne (by decide), e12, sv_ne (by decide), e11, sv_ne (by decide), e10, sv_ne (by decide)]; exact f50
            · rw [e13, sv_ne (by decide), e12, sv_ne (by decide), e11, sv_eq]; show Ltl u s = Ltl u s - 0; omega
          · show gv _ 51 s = up (Lal u) s 0 s ∧ (up (Lal u) s 0 s ≠ 0 → _) ∧ gv _ 53 s = up (Llo u) s 1 s ∧ gv _ 54 s = Lgt u s ∧ gv _ 55 s = Lga u s ∧ gv _ 56 s = Lgo u s ∧ gv _ 57 s = up (Llo u) s 1 s
            rw [up_eq, up_eq]
            refine ⟨?_, fun z => absurd rfl z, ?_, ?_, ?_, ?_, ?_⟩
            · rw [e13, sv_ne (by decide), e12, sv_ne (by decide), e11, sv_ne (by decide), e10, sv_eq]
            · rw [e13, sv_eq]
            · rw [e13, sv_ne (by decide), e12, sv_ne (by decide), e11, sv_ne (by decide), e10, sv_ne (by decide)]; exact (o7 54 s (by omega)).trans e54
            · rw [e13, sv_ne (by decide), e12, sv_ne (by decide), e11, sv_ne (by decide), e10, sv_ne (by decide)]; exact (o7 55 s (by omega)).trans e55
            · rw [e13, sv_ne (by decide), e12, sv_ne (by decide), e11, sv_ne (by decide), e10, sv_ne (by decide)]; exact f56
            · rw [e13, sv_ne (by decide), e12, sv_eq]
      · skip
        refine p_aload 81 rfl rfl rfl ?_
        refine p_getfr (j := 7) (z := 51) 84 rfl rfl rfl (tg_38 S7) rfl (fi_38_7 S7) ?_
        refine p_iload 85 rfl rfl rfl ?_
        refine p_const 86 rfl rfl ?_
        refine p_iast (w := 10) 87 rfl rfl (by decide) (tg_51 S7) (ln_51 S7) (by omega) (by omega) ?_
        refine p_nmh (fun y14 e14 => ?_)
        have S14 : Shape y14 := by rw [e14]; exact S7.svA fa_51 _ _
        have kp14 : Keep lxA h y14 := by rw [e14]; exact kp7.sv rfl _
        refine p_aload 88 rfl rfl rfl ?_
        refine p_getfr (j := 12) (z := 56) 91 rfl rfl rfl (tg_38 S14) rfl (fi_38_12 S14) ?_
        refine p_iload 92 rfl rfl rfl ?_
        refine p_dup2 93 rfl rfl nl_i nl_r ?_
        refine p_iald (w := 10) (z := (Lgo u s)) 94 rfl rfl (tg_56 S14) (ln_56 S14) (by omega) (by omega) (by rw [e14, sv_ne (by decide)]; exact f56) ?_
        refine p_const 95 rfl rfl ?_
        refine p_iadd (z := (Lgo u s) + 1) 96 rfl rfl (w32_id ⟨(by omega), (by omega)⟩) ?_
        refine p_iast (w := 10) 97 rfl rfl (by decide) (tg_56 S14) (ln_56 S14) (by omega) (by omega) ?_
        refine p_nmh (fun y15 e15 => ?_)
        have S15 : Shape y15 := by rw [e15]; exact S14.svA fa_56 _ _
        have kp15 : Keep lxA h y15 := by rw [e15]; exact kp14.sv rfl _
        refine p_aload 98 rfl rfl rfl ?_
        refine p_getfr (j := 1) (z := 24) 101 rfl rfl rfl (tg_38 S15) rfl (fi_38_1 S15) ?_
        refine p_getfr (j := 8) (z := 28) 104 rfl rfl rfl (tg_24 S15) rfl (fi_24_8 S15) ?_
        refine p_const 105 rfl rfl ?_
        refine p_iald (w := 100) (z := gv y7 28 0) 106 rfl rfl (tg_28 S15) (ln_28 S15) (by decide) (by decide) (by rw [e15, sv_ne (by decide)]; rw [e14, sv_ne (by decide)]) ?_
        refine p_iret rfl rfl ?_
        -- leaf 3: answer [.inl (gv y7 28 0)] h=y15 e15,e14 kp15
        obtain ⟨l, el⟩ := len_one (L := L') (by omega)
        subst el
        refine K _ _ ⟨kp15, Or.inr ⟨l, c1, c2', x7.one_only, r7.first, ?_⟩⟩ S15
        refine X0.chg (s := s) (fun b i z => ?_) ?_ ?_ (fun x hx => ⟨rfl, rfl, up_ne hx, rfl, rfl, rfl, rfl, up_ne hx⟩) rfl (fun _ => ?_) ?_ l9
        · rw [e15, sv_off (by omega), e14, sv_off (by omega)]; exact o7 b i (by omega)
        · rw [e15, sv_ne (by decide), e14, sv_ne (by decide)]; exact o7 38 3 (by omega)
        · rw [e15, sv_ne (by decide), e14, sv_ne (by decide)]; exact o7 38 15 (by omega)
        · refine ⟨?_, ?_, fun j w hj => ?_⟩
          · rw [e15, sv_ne (by decide), e14, sv_ne (by decide)]; exact f50
          · rw [e15, sv_ne (by decide), e14, sv_ne (by decide)]; exact (o7 49 s (by omega)).trans q2
          · rw [e15, sv_ne (by omega), e14, sv_ne (by omega)]; exact (o7 _ _ (by omega)).trans (q3 j w hj)
        · show gv _ 51 s = up (Lal u) s 0 s ∧ (up (Lal u) s 0 s ≠ 0 → _) ∧ gv _ 53 s = Llo u s ∧ gv _ 54 s = Lgt u s ∧ gv _ 55 s = Lga u s ∧ gv _ 56 s = up (Lgo u) s (Lgo u s + 1) s ∧ gv _ 57 s = Llo u s
          rw [up_eq, up_eq]
          refine ⟨?_, fun z => absurd rfl z, ?_, ?_, ?_, ?_, ?_⟩
          · rw [e15, sv_ne (by decide), e14, sv_eq]
          · rw [e15, sv_ne (by decide), e14, sv_ne (by decide)]; exact (o7 53 s (by omega)).trans e53
          · rw [e15, sv_ne (by decide), e14, sv_ne (by decide)]; exact (o7 54 s (by omega)).trans e54
          · rw [e15, sv_ne (by decide), e14, sv_ne (by decide)]; exact (o7 55 s (by omega)).trans e55
          · rw [e15, sv_eq]
          · rw [e15, sv_ne (by decide), e14, sv_ne (by decide)]; exact (o7 57 s (by omega)).trans e57
    · skip
      refine p_const 28 rfl rfl ?_
      refine p_iret rfl rfl ?_
      -- leaf 4: answer [.inl (-1)] h=h1  k1
      exact K _ _ ⟨k1, Or.inl ⟨rfl, by rw [lstp_wait c1 (by rw [← e52 c1]; omega)]; exact X0⟩⟩ S1
  · skip
    refine p_aload 10 rfl rfl rfl ?_
    refine p_iload 11 rfl rfl rfl ?_
    refine p_iload 12 rfl rfl rfl ?_
    refine p_callv (le := [some (.inr (.inr 38)), some (.inl s), some (.inl t), none]) (as := [.inr (.inr 38), .inl s, .inl t]) (rest := []) 15 0 0 0 0 rfl rfl (Nat.le_of_ble_eq_true rfl) rfl (Nat.le_of_ble_eq_true rfl) rfl rfl (Nat.le_of_ble_eq_true rfl) rfl (Nat.le_of_ble_eq_true rfl) rfl (Nat.le_refl _) (Nat.le_refl _) rfl rfl (tg_38 S1) ?_
    refine p_aload 1 rfl rfl rfl ?_
    refine p_getfr (j := 5) (z := 49) 4 rfl rfl rfl (tg_38 S1) rfl (fi_38_5 S1) ?_
    refine p_iload 5 rfl rfl rfl ?_
    refine p_iald (w := 10) (z := (Ltl u s - (Lq u s).length)) 6 rfl rfl (tg_49 S1) (ln_49 S1) (by omega) (by omega) q2 ?_
    refine p_istore (ls' := [some (.inr (.inr 38)), some (.inl s), some (.inl t), some (.inl (Ltl u s - (Lq u s).length))]) 7 rfl rfl (Nat.le_of_ble_eq_true rfl) rfl ?_
    refine p_iload 8 rfl rfl rfl ?_
    refine p_aload 9 rfl rfl rfl ?_
    refine p_getfr (j := 4) (z := 39) 12 rfl rfl rfl (tg_38 S1) rfl (fi_38_4 S1) ?_
    refine p_alen (w := 9) 13 rfl rfl (by rw [(tg_39 S1)]; decide) (ln_39 S1) ?_
    refine p_ic_ge_f 16 rfl rfl (by omega) ?_
    refine p_iload 17 rfl rfl rfl ?_
    refine p_aload 18 rfl rfl rfl ?_
    refine p_getfr (j := 6) (z := 50) 21 rfl rfl rfl (tg_38 S1) rfl (fi_38_6 S1) ?_
    refine p_iload 22 rfl rfl rfl ?_
    refine p_iald (w := 10) (z := gv h1 50 s) 23 rfl rfl (tg_50 S1) (ln_50 S1) (by omega) (by omega) rfl ?_
    refine p_ic_ge 26 73 rfl rfl rfl (fun c16 => ?_) (fun c16 => ?_)
    · skip
      refine p_ret rfl rfl ?_
      show Wp (d + 9) 0 0 M_X6_fly 15 [some (.inr (.inr 38)), some (.inr (.inr a)), some (.inl s), some (.inl t)] [] h1 _
      refine p_const 16 rfl rfl ?_
      refine p_iret rfl rfl ?_
      -- leaf 5: answer [.inl (-1)] h=h1  k1
      have hq : Lq u s = [] := by
        apply Classical.byContradiction
        intro n
        have := List.length_pos_iff.mpr n
        omega
      exact K _ _ ⟨k1, Or.inl ⟨rfl, by rw [lstp_none (by omega) hq]; exact X0⟩⟩ S1
    · skip
      refine p_iload 27 rfl rfl rfl ?_
      refine p_const 30 rfl rfl ?_
      refine p_ic_ge 33 73 rfl rfl rfl (fun c17 => ?_) (fun c17 => ?_)
      · skip
        refine p_ret rfl rfl ?_
        show Wp (d + 9) 0 0 M_X6_fly 15 [some (.inr (.inr 38)), some (.inr (.inr a)), some (.inl s), some (.inl t)] [] h1 _
        refine p_const 16 rfl rfl ?_
        refine p_iret rfl rfl ?_
        -- leaf 6: answer [.inl (-1)] h=h1  k1
        exfalso; omega
      · skip
        refine p_aload 34 rfl rfl rfl ?_
        refine p_getfr (j := 7) (z := 51) 37 rfl rfl rfl (tg_38 S1) rfl (fi_38_7 S1) ?_
        refine p_iload 38 rfl rfl rfl ?_
        refine p_aload 39 rfl rfl rfl ?_
        refine p_getfr (j := 4) (z := 39) 42 rfl rfl rfl (tg_38 S1) rfl (fi_38_4 S1) ?_
        refine p_iload 43 rfl rfl rfl ?_
        have rb := rl_in (gv h1 (40 + s) (Ltl u s - (Lq u s).length))
        refine p_aald (w := 9) (z := 40 + s) 44 rfl rfl (Or.inr (tg_39 S1)) (ln_39 S1) (by omega) (by omega) (S1.2.2.2 _ (by omega) (by omega)) ?_
        refine p_iload 45 rfl rfl rfl ?_
        refine p_iald (w := 240) (z := gv h1 (40 + s) (Ltl u s - (Lq u s).length)) 46 rfl rfl (row_tg S1 (by omega) (by omega)) (row_ln S1 (by omega) (by omega)) (by omega) (by omega) rfl ?_
        refine p_iast (w := 10) 47 rfl rfl (by decide) (tg_51 S1) (ln_51 S1) (by omega) (by omega) ?_
        refine p_nmh (fun y18 e18 => ?_)
        have S18 : Shape y18 := by rw [e18]; exact S1.svA fa_51 _ _
        have kp18 : Keep lxA h y18 := by rw [e18]; exact k1.sv rfl _
        refine p_aload 48 rfl rfl rfl ?_
        refine p_getfr (j := 8) (z := 52) 51 rfl rfl rfl (tg_38 S18) rfl (fi_38_8 S18) ?_
        refine p_iload 52 rfl rfl rfl ?_
        refine p_iload 53 rfl rfl rfl ?_
        refine p_aload 54 rfl rfl rfl ?_
        refine p_getfr (j := 7) (z := 51) 57 rfl rfl rfl (tg_38 S18) rfl (fi_38_7 S18) ?_
        refine p_iload 58 rfl rfl rfl ?_
        refine p_iald (w := 10) (z := gv h1 (40 + s) (Ltl u s - (Lq u s).length)) 59 rfl rfl (tg_51 S18) (ln_51 S18) (by omega) (by omega) (by rw [e18]; exact sv_eq _ _ _ _) ?_
        refine p_calls (le := [some (.inl (gv h1 (40 + s) (Ltl u s - (Lq u s).length)))]) (as := [.inl (gv h1 (40 + s) (Ltl u s - (Lq u s).length))]) (rest := [.inl t, .inl s, .inr (.inr 52)]) 62 0 0 0 0 rfl rfl (Nat.le_of_ble_eq_true rfl) rfl (Nat.le_of_ble_eq_true rfl) rfl rfl (Nat.le_of_ble_eq_true rfl) rfl (Nat.le_of_ble_eq_true rfl) rfl (Nat.le_refl _) (Nat.le_refl _) rfl rfl ?_
        refine x_rl S18 (gv h1 (40 + s) (Ltl u s - (Lq u s).length))  ?_
        show Wp (d + 8) 0 0 M_X6_bendOn 62 [some (.inr (.inr 38)), some (.inl s), some (.inl t), some (.inl (Ltl u s - (Lq u s).length))] [.inl (rl (gv h1 (40 + s) (Ltl u s - (Lq u s).length))), .inl t, .inl s, .inr (.inr 52)] y18 _
        refine p_iadd (z := t + (rl (gv h1 (40 + s) (Ltl u s - (Lq u s).length)))) 63 rfl rfl (w32_id ⟨(by omega), (by omega)⟩) ?_
        refine p_iast (w := 10) 64 rfl rfl (by decide) (tg_52 S18) (ln_52 S18) (by omega) (by omega) ?_
        refine p_nmh (fun y19 e19 => ?_)
        have S19 : Shape y19 := by rw [e19]; exact S18.svA fa_52 _ _
        have kp19 : Keep lxA h y19 := by rw [e19]; exact kp18.sv rfl _
        refine p_aload 65 rfl rfl rfl ?_
        refine p_getfr (j := 5) (z := 49) 68 rfl rfl rfl (tg_38 S19) rfl (fi_38_5 S19) ?_
        refine p_iload 69 rfl rfl rfl ?_
        refine p_iload 70 rfl rfl rfl ?_
        refine p_const 71 rfl rfl ?_
        refine p_iadd (z := (Ltl u s - (Lq u s).length) + 1) 72 rfl rfl (w32_id ⟨(by omega), (by omega)⟩) ?_
        refine p_iast (w := 10) 73 rfl rfl (by decide) (tg_49 S19) (ln_49 S19) (by omega) (by omega) ?_
        refine p_nmh (fun y20 e20 => ?_)
        have S20 : Shape y20 := by rw [e20]; exact S19.svA fa_49 _ _
        have kp20 : Keep lxA h y20 := by rw [e20]; exact kp19.sv rfl _
        refine p_ret rfl rfl ?_
        show Wp (d + 9) 0 0 M_X6_fly 15 [some (.inr (.inr 38)), some (.inr (.inr a)), some (.inl s), some (.inl t)] [] y20 _
        refine p_const 16 rfl rfl ?_
        refine p_iret rfl rfl ?_
        -- leaf 7: answer [.inl (-1)] h=y20 e20,e19,e18 kp20
        have c0 : Lal u s = 0 := by omega
        cases hq : Lq u s with
        | nil => exfalso; rw [hq] at c16; have c16 : Ltl u s - ((0 : Nat) : Int) < gv h1 50 s := c16; omega
        | cons w r =>
          have w0 : gv h1 (40 + s) (Ltl u s - (Lq u s).length) = w := by
            have y := q3 0 w (by rw [hq]; rfl)
            rw [show Ltl u s - ((Lq u s).length : Int) + ((0 : Nat) : Int) = Ltl u s - ((Lq u s).length : Int) by omega] at y; exact y
          have lq : ((Lq u s).length : Int) = r.length + 1 := by rw [hq]; rfl
          rw [w0] at e18 e19
          refine K _ _ ⟨kp20, Or.inl ⟨rfl, ?_⟩⟩ S20
          rw [lstp_bend c0 hq]
          refine X0.chg (s := s) (fun b i z => ?_) ?_ ?_ (fun x hx => ⟨up_ne hx, rfl, up_ne hx, up_ne hx, rfl, rfl, rfl, rfl⟩) rfl (fun _ => ?_) ?_ l9
          · rw [e20, sv_off (by omega), e19, sv_off (by omega), e18, sv_off (by omega)]
          · rw [e20, sv_ne (by decide), e19, sv_ne (by decide), e18, sv_ne (by decide)]
          · rw [e20, sv_ne (by decide), e19, sv_ne (by decide), e18, sv_ne (by decide)]
          · show QX _ s (up (Lq u) s r s) (Ltl u s)
            rw [up_eq]
            refine ⟨?_, ?_, fun j w' hj => ?_⟩
            · rw [e20, sv_ne (by decide), e19, sv_ne (by decide), e18, sv_ne (by decide)]; exact q1
            · rw [e20, sv_eq]; omega
            · rw [e20, sv_ne (by omega), e19, sv_ne (by omega), e18, sv_ne (by omega)]
              have y := q3 (j + 1) w' (by rw [hq]; exact hj)
              rw [show Ltl u s - ((Lq u s).length : Int) + ((j + 1 : Nat) : Int) = Ltl u s - (r.length : Int) + (j : Int) by omega] at y; exact y
          · show gv _ 51 s = up (Lal u) s w s ∧ (up (Lal u) s w s ≠ 0 → gv _ 52 s = up (Lfr u) s (t + rl w) s) ∧ gv _ 53 s = Llo u s ∧ gv _ 54 s = Lgt u s ∧ gv _ 55 s = Lga u s ∧ gv _ 56 s = Lgo u s ∧ gv _ 57 s = Llo u s
            rw [up_eq, up_eq]
            refine ⟨?_, fun _ => ?_, ?_, ?_, ?_, ?_, ?_⟩
            · rw [e20, sv_ne (by decide), e19, sv_ne (by decide), e18, sv_eq]
            · rw [e20, sv_ne (by decide), e19, sv_eq]
            · rw [e20, sv_ne (by decide), e19, sv_ne (by decide), e18, sv_ne (by decide)]; exact e53
            · rw [e20, sv_ne (by decide), e19, sv_ne (by decide), e18, sv_ne (by decide)]; exact e54
            · rw [e20, sv_ne (by decide), e19, sv_ne (by decide), e18, sv_ne (by decide)]; exact e55
            · rw [e20, sv_ne (by decide), e19, sv_ne (by decide), e18, sv_ne (by decide)]; exact e56
            · rw [e20, sv_ne (by decide), e19, sv_ne (by decide), e18, sv_ne (by decide)]; exact e57

