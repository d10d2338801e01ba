/-! TAKEN, both sides -/
def BkO (h : PH) (a k : Int) : Prop := (a = 0 ∧ k = 0) ∨ (1 ≤ k ∧ k ≤ 200 ∧ 128 ≤ a ∧ BkR h a k)
theorem BkO.kp {h h' : PH} {a k : Int} (B : BkO h a k) (K : Keep bkB h h') : BkO h' a k := by
  rcases B with B | ⟨a1, a2, a3, R⟩
  · exact Or.inl B
  · exact Or.inr ⟨a1, a2, a3, R.kp K⟩
theorem AIkbO {h : PH} (A : AI h) : BkO h (xb h) (kb h) := by
  rcases A.kb with ⟨a, b⟩ | z
  · exact Or.inl ⟨b, a⟩
  · exact Or.inr z
theorem AI.atO {h : PH} (A : AI h) {n : Int} (n0 : 0 ≤ n) (n1 : n ≤ gv h 18 5) : BkO h (gv h 19 (bkAt h n n.toNat)) (bkAt h n n.toNat) := by
  have c := A.1.2.1
  rcases A.book n1 n0 with ⟨a, b⟩ | ⟨a, b, R⟩
  · exact Or.inl ⟨b, a⟩
  · refine Or.inr ⟨a, by omega, ?_, R⟩
    obtain ⟨_, _, pl, _, _, B, _⟩ := R
    exact B.ge
/-- act k is a hoist flown -/
def FlA (h : PH) (k : Int) : Prop := (1 ≤ k ∧ k ≤ 200) ∧ isHo (gv h 20 k) ∧ (0 ≤ gv h 21 k ∧ gv h 21 k < 10) ∧ (0 ≤ gv h 22 k ∧ gv h 22 k < 1000) ∧ gv h 97 k = gv h 20 k ∧ gv h 95 k = gv h 21 k ∧ gv h 96 k = gv h 22 k
theorem AI.fl {h : PH} (A : AI h) {k n : Int} (k1 : k ≤ gv h 18 5) (f : isFl h k n) : FlA h k := by
  have c := A.1.2.1
  obtain ⟨f1, f2, f3, f4⟩ := f
  obtain ⟨r1, r2, r3, r4⟩ := A.2.1 k f1 k1
  rcases r4 with r | ⟨_, _, ho, e1, e2, e3, e4, e5⟩ | r
  · omega
  · exact ⟨⟨f1, by omega⟩, ho, e4, e5, e1, e2, e3⟩
  · omega
theorem FlA.kp {h h' : PH} {k : Int} (L : FlA h k) (K : Keep bkB h h') : FlA h' k := by
  unfold FlA
  rw [K.1 20 k rfl, K.1 21 k rfl, K.1 22 k rfl, K.1 97 k rfl, K.1 95 k rfl, K.1 96 k rfl]; exact L
def PlR (h : PH) (k s t w r : Int) (h' : PH) : Prop := (k = 0 ∧ r = -1) ∨ (k ≠ 0 ∧ SplX h' h k s t (zh h t) (told w) ∧ PlainR (Ws h k s t (zh h t)) (told w) r)
theorem x_plainRow4 {d : Nat} {h : PH} {q : PQ} (S : Shape h) (a act : Int) {k s t w : Int} (B : BkO h a k) (F : FI h) (L : FlA h act) (hs : gv h 21 act = s) (ht : gv h 22 act = t) (hw : gv h 20 act = w) (K : ∀ r h', (Keep xA h h' ∧ PlR h k s t w r h') → Shape h' → q (some (.inl r)) h') :
    Wp (d + 17) 0 0 M_X4_plainRow 0 [some (.inr (.inr 59)), some (.inr (.inr a)), some (.inl act)] [] h q := by
  obtain ⟨⟨l1, l2⟩, ho, ls, lt, _⟩ := L
  rw [hs] at ls
  rw [ht] at lt
  rw [hw] at ho
  rcases B with ⟨rfl, k0⟩ | ⟨k1, k2, a1, R⟩
  · skip
    refine p_aload 1 rfl rfl rfl ?_
    refine p_ifnonnull 4 6 rfl rfl rfl (fun z => absurd (by rfl) z) (fun c1 => ?_)
    refine p_const 5 rfl rfl ?_
    refine p_iret rfl rfl ?_
    -- leaf 1: answer [.inl (-1)] h=h 
    exact K _ _ ⟨Keep.rf _ _, Or.inl ⟨k0, rfl⟩⟩ S
  · skip
    refine p_aload 1 rfl rfl rfl ?_
    refine p_ifnonnull 4 6 rfl rfl rfl (fun c1 => ?_) (fun z => absurd z (by omega))
    refine p_aload 7 rfl rfl rfl ?_
    refine p_getfr (j := 1) (z := 24) 10 rfl rfl rfl (tg_59 S) rfl (fi_59_1 S) ?_
    refine p_aload 11 rfl rfl rfl ?_
    refine p_aload 12 rfl rfl rfl ?_
    refine p_getfr (j := 0) (z := 18) 15 rfl rfl rfl (tg_59 S) rfl (fi_59_0 S) ?_
    refine p_getfr (j := 2) (z := 21) 18 rfl rfl rfl (tg_18 S) rfl (fi_18_2 S) ?_
    refine p_iload 19 rfl rfl rfl ?_
    refine p_iald (w := 201) (z := s) 20 rfl rfl (tg_21 S) (ln_21 S) (by omega) (by omega) hs ?_
    refine p_aload 21 rfl rfl rfl ?_
    refine p_getfr (j := 0) (z := 18) 24 rfl rfl rfl (tg_59 S) rfl (fi_59_0 S) ?_
    refine p_getfr (j := 3) (z := 22) 27 rfl rfl rfl (tg_18 S) rfl (fi_18_3 S) ?_
    refine p_iload 28 rfl rfl rfl ?_
    refine p_iald (w := 201) (z := t) 29 rfl rfl (tg_22 S) (ln_22 S) (by omega) (by omega) ht ?_
    refine p_callv (le := [some (.inr (.inr 24)), some (.inr (.inr a)), some (.inl s), some (.inl t), none]) (as := [.inr (.inr 24), .inr (.inr a), .inl s, .inl t]) (rest := []) 32 0 0 0 0 rfl rfl (Nat.le_of_ble_eq_true rfl) rfl (Nat.le_of_ble_eq_true rfl) rfl rfl (Nat.le_of_ble_eq_true rfl) rfl (Nat.le_of_ble_eq_true rfl) rfl (Nat.le_refl _) (Nat.le_refl _) rfl rfl (tg_24 S) ?_
    refine x_prepare S a s t R F ls lt (fun y2 p2 S2 => ?_)
    have kp2 : Keep xA h y2 := (p2.1.wide pA_xA)
    show Wp (d + 17) 0 0 M_X4_plainRow 32 [some (.inr (.inr 59)), some (.inr (.inr a)), some (.inl act)] [] y2 _
    refine p_aload 33 rfl rfl rfl ?_
    refine p_getfr (j := 1) (z := 24) 36 rfl rfl rfl (tg_59 S2) rfl (fi_59_1 S2) ?_
    refine p_aload 37 rfl rfl rfl ?_
    refine p_getfr (j := 0) (z := 18) 40 rfl rfl rfl (tg_59 S2) rfl (fi_59_0 S2) ?_
    refine p_getfr (j := 1) (z := 20) 43 rfl rfl rfl (tg_18 S2) rfl (fi_18_1 S2) ?_
    refine p_iload 44 rfl rfl rfl ?_
    refine p_iald (w := 201) (z := w) 45 rfl rfl (tg_20 S2) (ln_20 S2) (by omega) (by omega) ((kp2.1 _ _ rfl).trans hw) ?_
    refine p_calls (le := [some (.inl w), none, none, none, none, none, none]) (as := [.inl w]) (rest := [.inr (.inr 24)]) 48 0 0 0 0 rfl rfl (Nat.le_of_ble_eq_true rfl) rfl (Nat.le_of_ble_eq_true rfl) rfl rfl (Nat.le_of_ble_eq_true rfl) rfl (Nat.le_of_ble_eq_true rfl) rfl (Nat.le_refl _) (Nat.le_refl _) rfl rfl ?_
    refine x_told S2 w (fun r3 p3 => ?_)
    show Wp (d + 17) 0 0 M_X4_plainRow 48 [some (.inr (.inr 59)), some (.inr (.inr a)), some (.inl act)] [.inl r3, .inr (.inr 24)] y2 _
    have e3 : r3 = told w := by
      rcases p3 with ⟨_, y⟩ | ⟨y, _⟩
      · exact y
      · exact absurd ho y
    have g2 : letters r3 := by rw [e3]; exact (told_rl ho).1
    have kB := kp2.wide xA_bkB
    refine p_callv (le := [some (.inr (.inr 24)), some (.inl r3)]) (as := [.inr (.inr 24), .inl r3]) (rest := []) 51 0 0 0 0 rfl rfl (Nat.le_of_ble_eq_true rfl) rfl (Nat.le_of_ble_eq_true rfl) rfl rfl (Nat.le_of_ble_eq_true rfl) rfl (Nat.le_of_ble_eq_true rfl) rfl (Nat.le_refl _) (Nat.le_refl _) rfl rfl (tg_24 S2) ?_
    refine x_plainRow S2 r3 (R.kp kB) p2.2 g2 (fun r4 y4 p4 S4 => ?_)
    have kp4 : Keep xA h y4 := kp2.trans (p4.1.wide rA_xA)
    show Wp (d + 17) 0 0 M_X4_plainRow 51 [some (.inr (.inr 59)), some (.inr (.inr a)), some (.inl act)] [.inl r4] y4 _
    refine p_iret rfl rfl ?_
    -- leaf 1: answer [.inl r4] h=y4  kp4
    obtain ⟨k4, sp, pr⟩ := p4
    rw [e3] at sp pr
    rw [Ws_congr kB] at pr
    exact K _ _ ⟨kp4, Or.inr ⟨by omega, sp.base kB, pr⟩⟩ S4
theorem PlR.base {h h1 h' : PH} {k s t w r : Int} (K : Keep bkB h h1) (P : PlR h1 k s t w r h') : PlR h k s t w r h' := by
  rcases P with P | ⟨a, b, c⟩
  · exact Or.inl P
  · rw [zh_congr K] at b c
    rw [Ws_congr K] at c
    exact Or.inr ⟨a, b.base K, c⟩
theorem Sp.all {W : Int → Int → Prop} {P : Int → Prop} {v n : Int} (hW : ∀ c id, W c id → P id) : ∀ {l : List Int} {fr : Int}, Sp W v n fr l → ∀ x ∈ l, P x
  | [], _, _, x, hx => absurd hx List.not_mem_nil
  | a :: l, fr, ⟨len, _, _, w, r⟩, x, hx => by
    rcases List.mem_cons.mp hx with y | y
    · rw [y]; exact hW _ _ w
    · exact Sp.all hW r x y
theorem Ws.lt {h : PH} {k s t z c id : Int} (w : Ws h k s t z c id) : id < gv h 79 k := by
  obtain ⟨j, ⟨j0, j1, _⟩, e⟩ := w
  rw [← e]; exact (fi_in j0 j1).2.1
theorem BkR.nms {h : PH} {a k : Int} (R : BkR h a k) : ∀ i, 0 ≤ i → i < gv h 79 k → gv h (a + 1) i = nm h k i ∧ 1 ≤ nm h k i := fun i i0 i1 => by
  obtain ⟨_, _, pl, _, _, B, I⟩ := R
  obtain ⟨⟨e, p, _⟩, _⟩ := I i i0 i1
  exact ⟨e, p⟩
theorem BkR.bks {h : PH} {a k : Int} (R : BkR h a k) : ∃ pl, BkS h a (gv h 79 k) pl := by
  obtain ⟨_, _, pl, _, _, B, I⟩ := R
  exact ⟨pl, B⟩
/-- what a hoist flown is for the other side -/
def UndR (h : PH) (ko kh s t w r : Int) : Prop :=
  ((ko = 0 ∨ kh = 0 ∨ (¬ ∃ l, only (Rd (Ws h ko s t (zh h t)) (told w)) l) ∨ ¬ ∃ l, only (Rd (Ws h kh s t (zh h t)) (told w)) l) ∧ r = 0) ∨
  (ko ≠ 0 ∧ kh ≠ 0 ∧ ∃ lo lh, only (Rd (Ws h ko s t (zh h t)) (told w)) lo ∧ only (Rd (Ws h kh s t (zh h t)) (told w)) lh ∧ ((lo.map (nm h ko) = lh.map (nm h kh) ∧ r = 2) ∨ (¬ lo.map (nm h ko) = lh.map (nm h kh) ∧ r = 1)))
theorem UndR.same {h : PH} {ko kh s t w r r' : Int} (a : UndR h ko kh s t w r) (b : UndR h ko kh s t w r') : r = r' := by
  rcases a with ⟨a1, a2⟩ | ⟨a1, a2, lo, lh, a3, a4, a5⟩ <;> rcases b with ⟨b1, b2⟩ | ⟨b1, b2, lo', lh', b3, b4, b5⟩
  · omega
  · rcases a1 with z | z | z | z
    · exact absurd z b1
    · exact absurd z b2
    · exact absurd ⟨lo', b3⟩ z
    · exact absurd ⟨lh', b4⟩ z
  · rcases b1 with z | z | z | z
    · exact absurd z a1
    · exact absurd z a2
    · exact absurd ⟨lo, a3⟩ z
    · exact absurd ⟨lh, a4⟩ z
  · rw [only_same b3 a3, only_same b4 a4] at b5
    rcases a5 with ⟨x, y⟩ | ⟨x, y⟩ <;> rcases b5 with ⟨x', y'⟩ | ⟨x', y'⟩
    · omega
    · exact absurd x x'
    · exact absurd x' x
    · omega
theorem UndR_congr {h h' : PH} (K : Keep bkB h h') (ko kh s t w r : Int) : UndR h' ko kh s t w r ↔ UndR h ko kh s t w r := by
  unfold UndR
  rw [zh_congr K, Ws_congr K, Ws_congr K, (bk_congr K ko).1, (bk_congr K kh).1]
theorem x_understands {d : Nat} {h : PH} {q : PQ} (S : Shape h) (act ao ah : Int) {ko kh s t w : Int} (Bo : BkO h ao ko) (Bh : BkO h ah kh) (F : FI h) (L : FlA h act) (hs : gv h 21 act = s) (ht : gv h 22 act = t) (hw : gv h 20 act = w)
    (K : ∀ r h', (Keep xA h h' ∧ UndR h ko kh s t w r ∧ (r = 2 → SplX h' h ko s t (zh h t) (told w))) → Shape h' → q (some (.inl r)) h') :
    Wp (d + 18) 0 0 M_X4_understands 0 [some (.inr (.inr 59)), some (.inl act), some (.inr (.inr ao)), some (.inr (.inr ah)), none, none] [] h q := by
  have J8 : ∀ (r : Int) (h1 : PH), Shape h1 → Keep xA h h1 → PlR h kh s t w r h1 → Wp (d + 18) 0 0 M_X4_understands 8 [some (.inr (.inr 59)), some (.inl act), some (.inr (.inr ao)), some (.inr (.inr ah)), some (.inl r), none] [] h1 q := by
    intro r h1 S1 k1 P1
    have kB := k1.wide xA_bkB
    refine p_aload 9 rfl rfl rfl ?_
    refine p_aload 10 rfl rfl rfl ?_
    refine p_iload 11 rfl rfl rfl ?_
    refine p_callv (le := [some (.inr (.inr 59)), some (.inr (.inr ao)), some (.inl act)]) (as := [.inr (.inr 59), .inr (.inr ao), .inl act]) (rest := []) 14 0 0 0 0 rfl rfl (Nat.le_of_ble_eq_true rfl) rfl (Nat.le_of_ble_eq_true rfl) rfl rfl (Nat.le_of_ble_eq_true rfl) rfl (Nat.le_of_ble_eq_true rfl) rfl (Nat.le_refl _) (Nat.le_refl _) rfl rfl (tg_59 S1) ?_
    refine x_plainRow4 S1 ao act (Bo.kp kB) (F.kp kB) (L.kp kB) ((k1.1 21 _ rfl).trans hs) ((k1.1 22 _ rfl).trans ht) ((k1.1 20 _ rfl).trans hw) (fun r1 y1 p1 S1 => ?_)
    have kp1 : Keep xA h y1 := k1.trans p1.1
    show Wp (d + 18) 0 0 M_X4_understands 14 [some (.inr (.inr 59)), some (.inl act), some (.inr (.inr ao)), some (.inr (.inr ah)), some (.inl r), none] [.inl r1] y1 _
    have Po := p1.2.base kB
    refine p_istore (ls' := [some (.inr (.inr 59)), some (.inl act), some (.inr (.inr ao)), some (.inr (.inr ah)), some (.inl r), some (.inl r1)]) 16 rfl rfl (Nat.le_of_ble_eq_true rfl) rfl ?_
    refine p_iload 18 rfl rfl rfl ?_
    refine p_const 19 rfl rfl ?_
    refine p_ic_eq 22 28 rfl rfl rfl (fun c2 => ?_) (fun c2 => ?_)
    · skip
      refine p_const 29 rfl rfl ?_
      refine p_iret rfl rfl ?_
      -- leaf 1: answer [.inl 0] h=y1  kp1
      refine K _ _ ⟨kp1, Or.inl ⟨?_, rfl⟩, fun z => absurd z (by decide)⟩ S1
      rcases P1 with ⟨z, _⟩ | ⟨z, _, pr⟩
      · exact Or.inr (Or.inl z)
      · rcases pr with ⟨l, o, e⟩ | ⟨n, _⟩
        · exfalso
          rcases Bh with ⟨_, z'⟩ | ⟨_, _, _, R⟩
          · exact z z'
          · have := enc_in (Rd.ok (fun c id y => y.in R.2.1) ((o l).2 rfl)); omega
        · exact Or.inr (Or.inr (Or.inr n))
    · skip
      refine p_iload 24 rfl rfl rfl ?_
      refine p_const 25 rfl rfl ?_
      refine p_ic_ne 28 30 rfl rfl rfl (fun c3 => ?_) (fun c3 => ?_)
      · skip
        obtain ⟨kh0, lh, oh, er'⟩ : kh ≠ 0 ∧ ∃ l, only (Rd (Ws h kh s t (zh h t)) (told w)) l ∧ r = enc l := by
          rcases P1 with ⟨_, z⟩ | ⟨z, _, pr⟩
          · exact absurd z c2
          · rcases pr with y | ⟨_, y⟩
            · exact ⟨z, y⟩
            · exact absurd y c2
        obtain ⟨ko0, sp, lo, oo, er⟩ : ko ≠ 0 ∧ SplX y1 h ko s t (zh h t) (told w) ∧ ∃ l, only (Rd (Ws h ko s t (zh h t)) (told w)) l ∧ r1 = enc l := by
          rcases Po with ⟨_, z⟩ | ⟨z, sp, pr⟩
          · exact absurd z c3
          · rcases pr with y | ⟨_, y⟩
            · exact ⟨z, sp, y⟩
            · exact absurd y c3
        obtain ⟨ho128, Ro⟩ : 128 ≤ ao ∧ BkR h ao ko := by
          rcases Bo with ⟨_, z⟩ | ⟨_, _, z, R⟩
          · exact absurd z ko0
          · exact ⟨z, R⟩
        obtain ⟨hh128, Rh⟩ : 128 ≤ ah ∧ BkR h ah kh := by
          rcases Bh with ⟨_, z⟩ | ⟨_, _, z, R⟩
          · exact absurd z kh0
          · exact ⟨z, R⟩
        obtain ⟨plo, Bo'⟩ := Ro.bks
        obtain ⟨plh, Bh'⟩ := Rh.bks
        have hNo : ∀ i, 0 ≤ i → i < gv h 79 ko → gv y1 (ao + 1) i = nm h ko i ∧ 1 ≤ nm h ko i := fun i i0 i1 => by have y := Ro.nms i i0 i1; exact ⟨(kp1.1 _ _ (xA_b _ _ (by omega))).trans y.1, y.2⟩
        have hNh : ∀ i, 0 ≤ i → i < gv h 79 kh → gv y1 (ah + 1) i = nm h kh i ∧ 1 ≤ nm h kh i := fun i i0 i1 => by have y := Rh.nms i i0 i1; exact ⟨(kp1.1 _ _ (xA_b _ _ (by omega))).trans y.1, y.2⟩
        have okA : okl lo := Rd.ok (fun c id y => y.in Ro.2.1) ((oo lo).2 rfl)
        have okC : okl lh := Rd.ok (fun c id y => y.in Rh.2.1) ((oh lh).2 rfl)
        have inA : ∀ x ∈ lo, x < gv h 79 ko := Sp.all (P := fun x => x < gv h 79 ko) (fun c id y => y.lt) ((oo lo).2 rfl)
        have inC : ∀ x ∈ lh, x < gv h 79 kh := Sp.all (P := fun x => x < gv h 79 kh) (fun c id y => y.lt) ((oh lh).2 rfl)
        refine p_aload 31 rfl rfl rfl ?_
        refine p_iload 33 rfl rfl rfl ?_
        refine p_aload 34 rfl rfl rfl ?_
        refine p_iload 36 rfl rfl rfl ?_
        refine p_calls (le := [some (.inr (.inr ao)), some (.inl r1), some (.inr (.inr ah)), some (.inl r), none]) (as := [.inr (.inr ao), .inl r1, .inr (.inr ah), .inl r]) (rest := []) 39 0 0 0 0 rfl rfl (Nat.le_of_ble_eq_true rfl) rfl (Nat.le_of_ble_eq_true rfl) rfl rfl (Nat.le_of_ble_eq_true rfl) rfl (Nat.le_of_ble_eq_true rfl) rfl (Nat.le_refl _) (Nat.le_refl _) rfl rfl ?_
        refine x_sameNames S1 ao r1 ah r (Bo'.kp kp1 xA_b) (Bh'.kp kp1 xA_b) hNo hNh okA okC inA inC er er' (fun c4 => ?_) (fun c4 => ?_)
        · show Wp (d + 18) 0 0 M_X4_understands 39 [some (.inr (.inr 59)), some (.inl act), some (.inr (.inr ao)), some (.inr (.inr ah)), some (.inl r), some (.inl r1)] [.inl 1] y1 _
          refine p_if_eq_f 42 rfl rfl (by decide) ?_
          refine p_const 43 rfl rfl ?_
          refine p_goto 47 rfl rfl ?_
          refine p_iret rfl rfl ?_
          -- leaf 2: answer [.inl 2] h=y1  kp1
          exact K _ _ ⟨kp1, Or.inr ⟨ko0, kh0, lo, lh, oo, oh, Or.inl ⟨c4, rfl⟩⟩, fun _ => sp⟩ S1
        · show Wp (d + 18) 0 0 M_X4_understands 39 [some (.inr (.inr 59)), some (.inl act), some (.inr (.inr ao)), some (.inr (.inr ah)), some (.inl r), some (.inl r1)] [.inl 0] y1 _
          refine p_if_eq_t 46 rfl rfl (by decide) ?_
          refine p_const 47 rfl rfl ?_
          refine p_iret rfl rfl ?_
          -- leaf 3: answer [.inl 1] h=y1  kp1
          exact K _ _ ⟨kp1, Or.inr ⟨ko0, kh0, lo, lh, oo, oh, Or.inr ⟨c4, rfl⟩⟩, fun z => absurd z (by decide)⟩ S1
      · skip
        refine p_const 29 rfl rfl ?_
        refine p_iret rfl rfl ?_
        -- leaf 4: answer [.inl 0] h=y1  kp1
        refine K _ _ ⟨kp1, Or.inl ⟨?_, rfl⟩, fun z => absurd z (by decide)⟩ S1
        rcases Po with ⟨z, _⟩ | ⟨z, _, pr⟩
        · exact Or.inl z
        · rcases pr with ⟨l, o, e⟩ | ⟨n, _⟩
          · exfalso
            rcases Bo with ⟨_, z'⟩ | ⟨_, _, _, R⟩
            · exact z z'
            · have := enc_in (Rd.ok (fun c id y => y.in R.2.1) ((o l).2 rfl)); omega
          · exact Or.inr (Or.inr (Or.inl n))
  refine p_aload 1 rfl rfl rfl ?_
  refine p_aload 2 rfl rfl rfl ?_
  refine p_iload 3 rfl rfl rfl ?_
  refine p_callv (le := [some (.inr (.inr 59)), some (.inr (.inr ah)), some (.inl act)]) (as := [.inr (.inr 59), .inr (.inr ah), .inl act]) (rest := []) 6 0 0 0 0 rfl rfl (Nat.le_of_ble_eq_true rfl) rfl (Nat.le_of_ble_eq_true rfl) rfl rfl (Nat.le_of_ble_eq_true rfl) rfl (Nat.le_of_ble_eq_true rfl) rfl (Nat.le_refl _) (Nat.le_refl _) rfl rfl (tg_59 S) ?_
  refine x_plainRow4 S ah act Bh F L hs ht hw (fun r1 y1 p1 S1 => ?_)
  show Wp (d + 18) 0 0 M_X4_understands 6 [some (.inr (.inr 59)), some (.inl act), some (.inr (.inr ao)), some (.inr (.inr ah)), none, none] [.inl r1] y1 _
  refine p_istore (ls' := [some (.inr (.inr 59)), some (.inl act), some (.inr (.inr ao)), some (.inr (.inr ah)), some (.inl r1), none]) 8 rfl rfl (Nat.le_of_ble_eq_true rfl) rfl ?_
  -- leaf 1: loop 8 [some (.inr (.inr 59)), some (.inl act), some (.inr (.inr ao)), some (.inr (.inr ah)), some (.inl r1), none] st=[] h=y1 
  exact J8 _ _ S1 p1.1 p1.2
abbrev argT (h : PH) (k n : Int) : Prop := (k ≤ gv h 18 5 ∧ isFl h k (nw h)) ∧ 0 ≤ n ∧ n ≤ gv h 18 5
def TakenR (h : PH) (k n r : Int) : Prop := (¬ argT h k n ∧ r = -1) ∨ (argT h k n ∧ UndR h (kb h) (bkAt h n n.toNat) (gv h 21 k) (gv h 22 k) (gv h 20 k) r)
theorem argT_congr {h h' : PH} (K : Keep bkB h h') (k n : Int) : argT h' k n ↔ argT h k n := by
  unfold argT isFl
  rw [nw_congr K, K.1 18 5 rfl, K.1 94 k rfl, K.1 98 k rfl]
theorem TakenR.same {h h' : PH} {k n r r' : Int} (a : TakenR h k n r) (K : Keep bkB h h') (b : TakenR h' k n r') : r = r' := by
  unfold TakenR at b
  rw [argT_congr K, UndR_congr K, kb_congr K, bkAt_congr K, K.1 21 k rfl, K.1 22 k rfl, K.1 20 k rfl] at b
  rcases a with ⟨a1, a2⟩ | ⟨a1, a2⟩ <;> rcases b with ⟨b1, b2⟩ | ⟨b1, b2⟩
  · omega
  · exact absurd b1 a1
  · exact absurd a1 b1
  · exact a2.same b2
theorem AI.flown_iff {h : PH} (A : AI h) (k : Int) : ((1 ≤ k ∧ k ≤ nw h ∧ k ≤ gv h 18 5 ∧ (gv h 23 k = 0 ∨ nw h < gv h 23 k)) ∧ gv h 20 k ≠ 0) ↔ (k ≤ gv h 18 5 ∧ isFl h k (nw h)) := by
  have n := nw_in A
  constructor
  · rintro ⟨⟨a, b, c, d⟩, e⟩
    have := A.cases a c
    exact ⟨c, a, b, by omega, by omega⟩
  · rintro ⟨a, b, c, d, e⟩
    have := A.cases b a
    exact ⟨⟨b, c, a, by omega⟩, by omega⟩
theorem x_taken {d : Nat} {h : PH} {q : PQ} (S : Shape h) (A : AI h) (F : FI h) (k n : Int) (K : ∀ r h', (Keep xA h h' ∧ TakenR h k n r) → Shape h' → q (some (.inl r)) h') :
    Wp (d + 19) 0 0 M_X11_taken 0 [some (.inr (.inr 2)), some (.inl k), some (.inl n)] [] h q := by
  have A0 := A
  have fl := A.flown_iff k
  have c5 := A.1
  have no : ¬ argT h k n → q (some (.inl (-1))) h := fun z => K _ _ ⟨Keep.rf _ _, Or.inl ⟨z, rfl⟩⟩ S
  refine p_aload 1 rfl rfl rfl ?_
  refine p_getfr (j := 3) (z := 18) 4 rfl rfl rfl (tg_2 S) rfl (fi_2_3 S) ?_
  refine p_iload 5 rfl rfl rfl ?_
  refine p_aload 6 rfl rfl rfl ?_
  refine p_getfr (j := 3) (z := 18) 9 rfl rfl rfl (tg_2 S) rfl (fi_2_3 S) ?_
  refine p_callv (le := [some (.inr (.inr 18))]) (as := [.inr (.inr 18)]) (rest := [.inl k, .inr (.inr 18)]) 12 0 0 0 0 rfl rfl (Nat.le_of_ble_eq_true rfl) rfl (Nat.le_of_ble_eq_true rfl) rfl rfl (Nat.le_of_ble_eq_true rfl) rfl (Nat.le_of_ble_eq_true rfl) rfl (Nat.le_refl _) (Nat.le_refl _) rfl rfl (tg_18 S) ?_
  refine x_knownAt S   ?_
  show Wp (d + 19) 0 0 M_X11_taken 12 [some (.inr (.inr 2)), some (.inl k), some (.inl n)] [.inl (nw h), .inl k, .inr (.inr 18)] h _
  refine p_callv (le := [some (.inr (.inr 18)), some (.inl k), some (.inl (nw h))]) (as := [.inr (.inr 18), .inl k, .inl (nw h)]) (rest := []) 15 0 0 0 0 rfl rfl (Nat.le_of_ble_eq_true rfl) rfl (Nat.le_of_ble_eq_true rfl) rfl rfl (Nat.le_of_ble_eq_true rfl) rfl (Nat.le_of_ble_eq_true rfl) rfl (Nat.le_refl _) (Nat.le_refl _) rfl rfl (tg_18 S) ?_
  refine x_isFlownKnown S k (nw h) (by omega) (fun c1 => ?_) (fun c1 => ?_)
  · show Wp (d + 19) 0 0 M_X11_taken 15 [some (.inr (.inr 2)), some (.inl k), some (.inl n)] [.inl 1] h _
    refine p_if_eq_f 18 rfl rfl (by decide) ?_
    refine p_iload 19 rfl rfl rfl ?_
    refine p_if_lt 22 33 rfl rfl rfl (fun c2 => ?_) (fun c2 => ?_)
    · skip
      refine p_const 34 rfl rfl ?_
      refine p_iret rfl rfl ?_
      -- leaf 1: answer [.inl (-1)] h=h 
      exact no (fun z => by have := z.2.1; omega)
    · skip
      refine p_iload 23 rfl rfl rfl ?_
      refine p_aload 24 rfl rfl rfl ?_
      refine p_getfr (j := 3) (z := 18) 27 rfl rfl rfl (tg_2 S) rfl (fi_2_3 S) ?_
      refine p_getfi (j := 5) (z := gv h 18 5) 30 rfl rfl rfl (tg_18 S) rfl rfl ?_
      refine p_ic_le 33 35 rfl rfl rfl (fun c3 => ?_) (fun c3 => ?_)
      · skip
        refine p_aload 36 rfl rfl rfl ?_
        refine p_getfr (j := 7) (z := 59) 39 rfl rfl rfl (tg_2 S) rfl (fi_2_7 S) ?_
        refine p_iload 40 rfl rfl rfl ?_
        refine p_aload 41 rfl rfl rfl ?_
        refine p_callv (le := [some (.inr (.inr 2))]) (as := [.inr (.inr 2)]) (rest := [.inl k, .inr (.inr 59)]) 44 0 0 0 0 rfl rfl (Nat.le_of_ble_eq_true rfl) rfl (Nat.le_of_ble_eq_true rfl) rfl rfl (Nat.le_of_ble_eq_true rfl) rfl (Nat.le_of_ble_eq_true rfl) rfl (Nat.le_refl _) (Nat.le_refl _) rfl rfl (tg_2 S) ?_
        refine x_knownBook S  (A0) ?_
        show Wp (d + 19) 0 0 M_X11_taken 44 [some (.inr (.inr 2)), some (.inl k), some (.inl n)] [.inr (.inr (xb h)), .inl k, .inr (.inr 59)] h _
        refine p_aload 45 rfl rfl rfl ?_
        refine p_getfr (j := 3) (z := 18) 48 rfl rfl rfl (tg_2 S) rfl (fi_2_3 S) ?_
        refine p_iload 49 rfl rfl rfl ?_
        refine p_callv (le := [some (.inr (.inr 18)), some (.inl n), none]) (as := [.inr (.inr 18), .inl n]) (rest := [.inr (.inr (xb h)), .inl k, .inr (.inr 59)]) 52 0 0 0 0 rfl rfl (Nat.le_of_ble_eq_true rfl) rfl (Nat.le_of_ble_eq_true rfl) rfl rfl (Nat.le_of_ble_eq_true rfl) rfl (Nat.le_of_ble_eq_true rfl) rfl (Nat.le_refl _) (Nat.le_refl _) rfl rfl (tg_18 S) ?_
        refine x_bookAt S n (A0) (by omega) (by omega) ?_
        show Wp (d + 19) 0 0 M_X11_taken 52 [some (.inr (.inr 2)), some (.inl k), some (.inl n)] [.inr (.inr (gv h 19 (bkAt h n (n).toNat))), .inr (.inr (xb h)), .inl k, .inr (.inr 59)] h _
        refine p_callv (le := [some (.inr (.inr 59)), some (.inl k), some (.inr (.inr (xb h))), some (.inr (.inr (gv h 19 (bkAt h n (n).toNat)))), none, none]) (as := [.inr (.inr 59), .inl k, .inr (.inr (xb h)), .inr (.inr (gv h 19 (bkAt h n (n).toNat)))]) (rest := []) 55 0 0 0 0 rfl rfl (Nat.le_of_ble_eq_true rfl) rfl (Nat.le_of_ble_eq_true rfl) rfl rfl (Nat.le_of_ble_eq_true rfl) rfl (Nat.le_of_ble_eq_true rfl) rfl (Nat.le_refl _) (Nat.le_refl _) rfl rfl (tg_59 S) ?_
        refine x_understands S k (xb h) (gv h 19 (bkAt h n (n).toNat)) (AIkbO A) (A.atO (by omega) (by omega)) F (A.fl (fl.1 c1).1 (fl.1 c1).2) rfl rfl rfl (fun r6 y6 p6 S6 => ?_)
        have kp6 : Keep xA h y6 := p6.1
        show Wp (d + 19) 0 0 M_X11_taken 55 [some (.inr (.inr 2)), some (.inl k), some (.inl n)] [.inl r6] y6 _
        refine p_iret rfl rfl ?_
        -- leaf 2: answer [.inl r6] h=y6  kp6
        exact K _ _ ⟨kp6, Or.inr ⟨⟨fl.1 c1, by omega, by omega⟩, p6.2.1⟩⟩ S6
      · skip
        refine p_const 34 rfl rfl ?_
        refine p_iret rfl rfl ?_
        -- leaf 3: answer [.inl (-1)] h=h 
        exact no (fun z => by have := z.2.2; omega)
  · show Wp (d + 19) 0 0 M_X11_taken 15 [some (.inr (.inr 2)), some (.inl k), some (.inl n)] [.inl 0] h _
    refine p_if_eq_t 33 rfl rfl (by decide) ?_
    refine p_const 34 rfl rfl ?_
    refine p_iret rfl rfl ?_
    -- leaf 4: answer [.inl (-1)] h=h 
    exact no (fun z => c1 (fl.2 z.1))
/-! the model's side -/
def mtkA (a i : Int) : Bool := decide ((a = 66 ∧ (i = 38 ∨ i = 48 ∨ i = 49 ∨ i = 52 ∨ i = 56 ∨ i = 83)) ∨ (92 ≤ a ∧ a ≤ 93) ∨ (99 ≤ a ∧ a ≤ 104) ∨ a = 125)
theorem mtkA_bkB : ∀ a i, bkB a i = false → mtkA a i = false := fun a i => dw (by omega)
theorem hoA_mtkA : ∀ a i, mtkA a i = false → hoA a i = false := fun a i z => hoA_f (fun y => of_decide_eq_false z (by omega))
theorem moA_mtkA : ∀ a i, mtkA a i = false → moA a i = false := fun a i => dw (by omega)
theorem rdA_mtkA : ∀ a i, mtkA a i = false → rdA a i = false := fun a i => dw (by omega)
theorem RowsM.nms {h : PH} {l : List Int} (R : RowsM h [l] 2) : gv h 102 0 = l.length ∧ ∀ j : Nat, j < 4 → gv h 103 j = pad l j := by
  obtain ⟨a, p0, p1, p2, p3⟩ := R.2.2.2.2.2 0 l rfl
  refine ⟨a, fun j hj => ?_⟩
  rcases (show j = 0 ∨ j = 1 ∨ j = 2 ∨ j = 3 by omega) with rfl | rfl | rfl | rfl
  · exact p0
  · exact p1
  · exact p2
  · exact p3
theorem m_taken1 {d : Nat} {h : PH} {q : PQ} (S : Shape h) (A : AI h) (F : FI h) (k n : Int) {s t w : Int} (L : FlA h k) (hs : gv h 21 k = s) (ht : gv h 22 k = t) (hw : gv h 20 k = w) (n0 : 0 ≤ n) (n1 : n ≤ gv h 18 5)
    (K : ∀ r h', (Keep mtkA h h' ∧ UndR h (kb h) (bkAt h n n.toNat) s t w r ∧ (r = 2 → Open h' (kb h) s t (zh h t))) → Shape h' → q (some (.inl r)) h') :
    Wp (d + 9) 0 0 M_X12_taken1 0 [some (.inr (.inr 66)), some (.inl k), some (.inl n), none, none, none, none, none, none] [] h q := by
  have A0 := A
  have nwi := nw_in A
  obtain ⟨⟨l1, l2⟩, ho, ls, ltm, f97, f95, f96⟩ := L
  rw [hw] at ho f97
  rw [hs] at ls f95
  rw [ht] at ltm f96
  have hkb := AIkbO A
  have hka := A.atO n0 n1
  generalize hh : bkAt h n n.toNat = kh at hka K
  have no : ∀ h', (kb h = 0 ∨ kh = 0 ∨ (¬ ∃ l, only (Rd (Ws h (kb h) s t (zh h t)) (told w)) l) ∨ ¬ ∃ l, only (Rd (Ws h kh s t (zh h t)) (told w)) l) → Keep mtkA h h' → Shape h' → q (some (.inl 0)) h' := fun h' z k' S' => K 0 h' ⟨k', Or.inl ⟨z, rfl⟩, fun z => absurd z (by decide)⟩ S'
  have J191 : ∀ (M lo : List Int) (h1 : PH), Shape h1 → Keep mtkA h h1 → Open h1 (kb h) s t (zh h t) → kb h ≠ 0 → kh ≠ 0 → only (Rd (Ws h (kb h) s t (zh h t)) (told w)) lo → only (Rd (Ws h kh s t (zh h t)) (told w)) M → okl M → okl lo → gv h1 66 83 = M.length → (∀ j : Nat, j < M.length → gv h1 125 j = nm h kh (pad M j)) → gv h1 102 0 = lo.length → (∀ j : Nat, j < 4 → gv h1 103 j = pad lo j) →
      ∀ (c i : Nat) (j b : Int) (v6 : Int), j = i → i + c = M.length → tru b (M.length = lo.length ∧ ∀ x, x < i → nm h kh (pad M x) = nm h (kb h) (pad lo x)) → Wp (d + 9) 0 0 M_X12_taken1 191 [some (.inr (.inr 66)), some (.inl k), some (.inl n), some (.inl kh), some (.inl (kb h)), some (.inl (told w)), some (.inl v6), some (.inl b), some (.inl j)] [] h1 q := by
    intro M lo h1 S1 k1 O1 kb0 kh0 oo oh okM okl' b83 b125 b102 b103 c
    have fin : ∀ b : Int, tru b (M.length = lo.length ∧ ∀ x, x < M.length → nm h kh (pad M x) = nm h (kb h) (pad lo x)) → (b = 1 → q (some (.inl 2)) h1) ∧ (b = 0 → q (some (.inl 1)) h1) := fun b tb => by
      constructor
      · intro e
        rcases tb with ⟨_, z1, z2⟩ | ⟨z, _⟩
        · refine K 2 h1 ⟨k1, Or.inr ⟨kb0, kh0, lo, M, oo, oh, Or.inl ⟨?_, rfl⟩⟩, fun _ => O1⟩ S1
          refine List.ext_getElem (by rw [List.length_map, List.length_map]; exact z1.symm) (fun x x1 x2 => ?_)
          rw [List.length_map] at x1 x2
          have y := z2 x x2
          unfold pad at y
          rw [List.getD_eq_getElem?_getD, List.getElem?_eq_getElem x2, List.getD_eq_getElem?_getD, List.getElem?_eq_getElem x1] at y
          rw [List.getElem_map, List.getElem_map]
          exact y.symm
        · omega
      · intro e
        rcases tb with ⟨z, _⟩ | ⟨_, z⟩
        · omega
        · refine K 1 h1 ⟨k1, Or.inr ⟨kb0, kh0, lo, M, oo, oh, Or.inr ⟨fun y => z ?_, rfl⟩⟩, fun z => absurd z (by decide)⟩ S1
          have e1 : M.length = lo.length := by have := congrArg List.length y; rw [List.length_map, List.length_map] at this; exact this.symm
          refine ⟨e1, fun x hx => ?_⟩
          have y2 := congrArg (fun l => l[x]?) y
          simp only [List.getElem?_map] at y2
          rw [List.getElem?_eq_getElem (by omega), List.getElem?_eq_getElem hx] at y2
          unfold pad
          rw [List.getD_eq_getElem?_getD, List.getElem?_eq_getElem hx, List.getD_eq_getElem?_getD, List.getElem?_eq_getElem (show x < lo.length by omega)]
          exact (Option.some.inj y2).symm
    have m4 := okM.1
    induction c with
    | zero =>
      intro i j b v6 hj hc tb
      have e : i = M.length := by omega
      rw [e] at tb
      have f := fin b tb
      have b01 : b = 0 ∨ b = 1 := by rcases tb with z | z <;> omega
      refine p_iload 193 rfl rfl rfl ?_
      refine p_aload 194 rfl rfl rfl ?_
      refine p_getfi (j := 83) (z := (M.length : Int)) 197 rfl rfl rfl (tg_66 S1) rfl b83 ?_
      refine p_ic_ge_t 247 rfl rfl (by omega) ?_
      refine p_iload 249 rfl rfl rfl ?_
      refine p_if_eq 252 256 rfl rfl rfl (fun c1 => ?_) (fun c1 => ?_)
      · skip
        refine p_const 257 rfl rfl ?_
        refine p_iret rfl rfl ?_
        -- leaf 1: answer [.inl 1] h=h1 
        exact f.2 (by assumption)
      · skip
        refine p_const 253 rfl rfl ?_
        refine p_goto 257 rfl rfl ?_
        refine p_iret rfl rfl ?_
        -- leaf 2: answer [.inl 2] h=h1 
        exact f.1 (by omega)
    | succ c ih =>
      intro i j b v6 hj hc tb
      have e125 : gv h1 125 j = nm h kh (pad M i) := by rw [hj]; exact b125 i (by omega)
      have e103 : gv h1 103 j = pad lo i := by rw [hj]; exact b103 i (by omega)
      have b01 : b = 0 ∨ b = 1 := by rcases tb with z | z <;> omega
      by_cases z : b = 0
      · subst z
        have nb : ¬ (M.length = lo.length ∧ ∀ x, x < M.length → nm h kh (pad M x) = nm h (kb h) (pad lo x)) := fun y => by
          rcases tb with ⟨a, _⟩ | ⟨_, a⟩
          · omega
          · exact a ⟨y.1, fun x hx => y.2 x (by omega)⟩
        have f := (fin 0 (Or.inr ⟨rfl, nb⟩)).2 rfl
        refine p_iload 193 rfl rfl rfl ?_
        refine p_aload 194 rfl rfl rfl ?_
        refine p_getfi (j := 83) (z := (M.length : Int)) 197 rfl rfl rfl (tg_66 S1) rfl b83 ?_
        refine p_ic_ge_f 200 rfl rfl (by omega) ?_
        refine p_iload 202 rfl rfl rfl ?_
        refine p_if_eq_t 247 rfl rfl (by decide) ?_
        refine p_iload 249 rfl rfl rfl ?_
        refine p_if_eq_t 256 rfl rfl (by decide) ?_
        refine p_const 257 rfl rfl ?_
        refine p_iret rfl rfl ?_
        -- leaf 1: answer [.inl 1] h=h1 
        exact f
      · have b1 : b = 1 := by omega
        subst b1
        obtain ⟨t1, t2⟩ : M.length = lo.length ∧ ∀ x, x < i → nm h kh (pad M x) = nm h (kb h) (pad lo x) := by
          rcases tb with ⟨_, a⟩ | ⟨a, _⟩
          · exact a
          · omega
        have gx : 0 ≤ pad lo i ∧ pad lo i < 40 := by
          unfold pad
          rw [List.getD_eq_getElem?_getD, List.getElem?_eq_getElem (by omega)]
          exact okl'.2 _ (List.getElem_mem _)
        have kb2 : 0 ≤ kb h ∧ kb h ≤ 200 := by rcases hkb with ⟨_, y⟩ | ⟨y1, y2, _⟩ <;> omega
        have e80 : gv h1 80 (40 * kb h + pad lo i) = nm h (kb h) (pad lo i) := k1.1 80 _ rfl
        refine p_iload 193 rfl rfl rfl ?_
        refine p_aload 194 rfl rfl rfl ?_
        refine p_getfi (j := 83) (z := (M.length : Int)) 197 rfl rfl rfl (tg_66 S1) rfl b83 ?_
        refine p_ic_ge_f 200 rfl rfl (by omega) ?_
        refine p_iload 202 rfl rfl rfl ?_
        refine p_if_eq_f 205 rfl rfl (by decide) ?_
        refine p_aload 206 rfl rfl rfl ?_
        refine p_getfr (j := 84) (z := 125) 209 rfl rfl rfl (tg_66 S1) rfl (fi_66_84 S1) ?_
        refine p_iload 211 rfl rfl rfl ?_
        refine p_lald (w := 4) (z := (nm h kh (pad M i))) 212 rfl rfl (tg_125 S1) (ln_125 S1) (by omega) (by omega) e125 ?_
        refine p_aload 213 rfl rfl rfl ?_
        refine p_getfr (j := 21) (z := 80) 216 rfl rfl rfl (tg_66 S1) rfl (fi_66_21 S1) ?_
        refine p_const 218 rfl rfl ?_
        refine p_iload 220 rfl rfl rfl ?_
        refine p_imul (z := 40 * (kb h)) 221 rfl rfl (w32_id ⟨(by omega), (by omega)⟩) ?_
        refine p_aload 222 rfl rfl rfl ?_
        refine p_getfr (j := 54) (z := 103) 225 rfl rfl rfl (tg_66 S1) rfl (fi_66_54 S1) ?_
        refine p_iload 227 rfl rfl rfl ?_
        refine p_iald (w := 400) (z := (pad lo i)) 228 rfl rfl (tg_103 S1) (ln_103 S1) (by omega) (by omega) e103 ?_
        refine p_iadd (z := (40 * (kb h)) + (pad lo i)) 229 rfl rfl (w32_id ⟨(by omega), (by omega)⟩) ?_
        refine p_lald (w := 8040) (z := gv h1 80 ((40 * (kb h)) + (pad lo i))) 230 rfl rfl (tg_80 S1) (ln_80 S1) (by omega) (by omega) rfl ?_
        refine p_lc_ne 231 234 238 rfl rfl rfl rfl rfl (fun c1 => ?_) (fun c1 => ?_)
        · skip
          refine p_const 239 rfl rfl ?_
          refine p_istore (ls' := [some (.inr (.inr 66)), some (.inl k), some (.inl n), some (.inl kh), some (.inl (kb h)), some (.inl (told w)), some (.inl v6), some (.inl 0), some (.inl j)]) 241 rfl rfl (Nat.le_of_ble_eq_true rfl) rfl ?_
          refine p_iinc (y := j + 1) (ls' := [some (.inr (.inr 66)), some (.inl k), some (.inl n), some (.inl kh), some (.inl (kb h)), some (.inl (told w)), some (.inl v6), some (.inl 0), some (.inl (j + 1))]) 244 rfl rfl rfl (w32_id ⟨(by omega), (by omega)⟩) rfl ?_
          refine p_goto 191 rfl rfl ?_
          -- leaf 1: loop 191 [some (.inr (.inr 66)), some (.inl k), some (.inl n), some (.inl kh), some (.inl (kb h)), some (.inl (told w)), some (.inl v6), some (.inl 0), some (.inl (j + 1))] st=[] h=h1 
          refine ih (i + 1) (j + 1) 0 v6 (by omega) (by omega) (Or.inr ⟨rfl, fun y => ?_⟩)
          have := y.2 i (by omega)
          rw [← e80] at this
          contradiction
        · skip
          refine p_const 235 rfl rfl ?_
          refine p_goto 239 rfl rfl ?_
          refine p_istore (ls' := [some (.inr (.inr 66)), some (.inl k), some (.inl n), some (.inl kh), some (.inl (kb h)), some (.inl (told w)), some (.inl v6), some (.inl 1), some (.inl j)]) 241 rfl rfl (Nat.le_of_ble_eq_true rfl) rfl ?_
          refine p_iinc (y := j + 1) (ls' := [some (.inr (.inr 66)), some (.inl k), some (.inl n), some (.inl kh), some (.inl (kb h)), some (.inl (told w)), some (.inl v6), some (.inl 1), some (.inl (j + 1))]) 244 rfl rfl rfl (w32_id ⟨(by omega), (by omega)⟩) rfl ?_
          refine p_goto 191 rfl rfl ?_
          -- leaf 2: loop 191 [some (.inr (.inr 66)), some (.inl k), some (.inl n), some (.inl kh), some (.inl (kb h)), some (.inl (told w)), some (.inl v6), some (.inl 1), some (.inl (j + 1))] st=[] h=h1 
          refine ih (i + 1) (j + 1) 1 v6 (by omega) (by omega) (Or.inl ⟨rfl, t1, fun x hx => ?_⟩)
          by_cases y : x = i
          · rw [y, ← e80]; omega
          · exact t2 x (by omega)
  have zhi := zh_in F ltm.1 ltm.2
  have J134 : ∀ (r : Int) (w7 w8 : Option PV) (h1 : PH), Shape h1 → Keep mtkA h h1 → kb h ≠ 0 → kh ≠ 0 → ((r = 1 ∧ ∃ M, only (Rd (Ws h kh s t (zh h t)) (told w)) M ∧ okl M ∧ gv h1 66 83 = M.length ∧ ∀ j : Nat, j < M.length → gv h1 125 j = nm h kh (pad M j)) ∨ (r = 0 ∧ ¬ ∃ l, only (Rd (Ws h kh s t (zh h t)) (told w)) l)) →
      Wp (d + 9) 0 0 M_X12_taken1 134 [some (.inr (.inr 66)), some (.inl k), some (.inl n), some (.inl kh), some (.inl (kb h)), some (.inl (told w)), some (.inl r), w7, w8] [] h1 q := by
    intro r w7 w8 h1 S1 k1 kb0 kh0 P
    have kB := k1.wide mtkA_bkB
    obtain ⟨o1, o2, _, Ro⟩ : 1 ≤ kb h ∧ kb h ≤ 200 ∧ 128 ≤ xb h ∧ BkR h (xb h) (kb h) := by
      rcases hkb with ⟨_, y⟩ | y
      · exact absurd y kb0
      · exact y
    have r01 : r = 0 ∨ r = 1 := by rcases P with z | z <;> omega
    refine p_aload 135 rfl rfl rfl ?_
    refine p_iload 137 rfl rfl rfl ?_
    refine p_aload 138 rfl rfl rfl ?_
    refine p_getfr (j := 42) (z := 95) 141 rfl rfl rfl (tg_66 S1) rfl (fi_66_42 S1) ?_
    refine p_iload 142 rfl rfl rfl ?_
    refine p_iald (w := 201) (z := s) 143 rfl rfl (tg_95 S1) (ln_95 S1) (by omega) (by omega) ((k1.1 _ _ rfl).trans f95) ?_
    refine p_aload 144 rfl rfl rfl ?_
    refine p_getfr (j := 43) (z := 96) 147 rfl rfl rfl (tg_66 S1) rfl (fi_66_43 S1) ?_
    refine p_iload 148 rfl rfl rfl ?_
    refine p_iald (w := 201) (z := t) 149 rfl rfl (tg_96 S1) (ln_96 S1) (by omega) (by omega) ((k1.1 _ _ rfl).trans f96) ?_
    refine p_callv (le := [some (.inr (.inr 66)), some (.inl (kb h)), some (.inl s), some (.inl t), none, none]) (as := [.inr (.inr 66), .inl (kb h), .inl s, .inl t]) (rest := []) 152 0 0 0 0 rfl rfl (Nat.le_of_ble_eq_true rfl) rfl (Nat.le_of_ble_eq_true rfl) rfl rfl (Nat.le_of_ble_eq_true rfl) rfl (Nat.le_of_ble_eq_true rfl) rfl (Nat.le_refl _) (Nat.le_refl _) rfl rfl (tg_66 S1) ?_
    refine m_opensBook S1 (kb h) s t (Ro.kp kB) (F.kp kB) (by omega) (by omega) ls ltm (fun y1 p1 S1 => ?_)
    have kp1 : Keep mtkA h y1 := k1.trans (p1.1.wide moA_mtkA)
    show Wp (d + 9) 0 0 M_X12_taken1 152 [some (.inr (.inr 66)), some (.inl k), some (.inl n), some (.inl kh), some (.inl (kb h)), some (.inl (told w)), some (.inl r), w7, w8] [] y1 _
    have kB1 := kp1.wide mtkA_bkB
    have O1 := p1.2
    rw [zh_congr kB] at O1
    have R1 := Ro.kp kB1
    have tv1 := R1.tvs ls ltm zhi
    have n1' := R1.1
    have n40' := R1.2.1
    refine p_aload 153 rfl rfl rfl ?_
    refine p_iload 155 rfl rfl rfl ?_
    refine p_callv (le := [some (.inr (.inr 66)), some (.inl (told w))]) (as := [.inr (.inr 66), .inl (told w)]) (rest := []) 158 0 0 0 0 rfl rfl (Nat.le_of_ble_eq_true rfl) rfl (Nat.le_of_ble_eq_true rfl) rfl rfl (Nat.le_of_ble_eq_true rfl) rfl (Nat.le_of_ble_eq_true rfl) rfl (Nat.le_refl _) (Nat.le_refl _) rfl rfl (tg_66 S1) ?_
    refine m_isPlain S1 (told w) (told_rl ho).1 O1 (by omega) (by omega) (by omega) (by omega) tv1 (fun r2 y2 p2 S2 => ?_)
    have kp2 : Keep mtkA h y2 := kp1.trans (p2.1.wide rdA_mtkA)
    show Wp (d + 9) 0 0 M_X12_taken1 158 [some (.inr (.inr 66)), some (.inl k), some (.inl n), some (.inl kh), some (.inl (kb h)), some (.inl (told w)), some (.inl r), w7, w8] [.inl r2] y2 _
    obtain ⟨k2', Q2⟩ := p2
    rw [Ws_congr kB1] at Q2
    refine p_if_eq 161 166 rfl rfl rfl (fun c3 => ?_) (fun c3 => ?_)
    · skip
      refine p_const 167 rfl rfl ?_
      refine p_iret rfl rfl ?_
      -- leaf 1: answer [.inl 0] h=y2  kp2
      refine no _ (Or.inr (Or.inr (Or.inl ?_))) kp2 S2
      rcases Q2 with ⟨z, _⟩ | ⟨_, z⟩
      · omega
      · exact z
    · skip
      refine p_iload 163 rfl rfl rfl ?_
      refine p_if_ne 166 168 rfl rfl rfl (fun c4 => ?_) (fun c4 => ?_)
      · skip
        obtain ⟨lo, oo, RM⟩ : ∃ l, only (Rd (Ws h (kb h) s t (zh h t)) (told w)) l ∧ RowsM y2 [l] 2 := by
          rcases Q2 with ⟨_, z⟩ | ⟨z, _⟩
          · exact z
          · exact absurd z c3
        obtain ⟨M, oh, okM, b83, b125⟩ : ∃ M, only (Rd (Ws h kh s t (zh h t)) (told w)) M ∧ okl M ∧ gv h1 66 83 = M.length ∧ ∀ j : Nat, j < M.length → gv h1 125 j = nm h kh (pad M j) := by
          rcases P with ⟨_, z⟩ | ⟨z, _⟩
          · exact z
          · exact absurd z c4
        obtain ⟨r102, r103⟩ := RM.nms
        have okL : okl lo := Rd.ok (fun c id y => y.in Ro.2.1) ((oo lo).2 rfl)
        have b83' : gv y2 66 83 = M.length := by rw [k2'.1 66 83 rfl, p1.1.1 66 83 rfl]; exact b83
        have b125' : ∀ j : Nat, j < M.length → gv y2 125 j = nm h kh (pad M j) := fun j hj => by rw [k2'.1 125 _ rfl, p1.1.1 125 _ rfl]; exact b125 j hj
        refine p_aload 169 rfl rfl rfl ?_
        refine p_getfi (j := 83) (z := gv y2 66 83) 172 rfl rfl rfl (tg_66 S2) rfl rfl ?_
        refine p_aload 173 rfl rfl rfl ?_
        refine p_getfr (j := 53) (z := 102) 176 rfl rfl rfl (tg_66 S2) rfl (fi_66_53 S2) ?_
        refine p_const 177 rfl rfl ?_
        refine p_iald (w := 100) (z := gv y2 102 0) 178 rfl rfl (tg_102 S2) (ln_102 S2) (by decide) (by decide) rfl ?_
        refine p_ic_ne 181 185 rfl rfl rfl (fun c5 => ?_) (fun c5 => ?_)
        · skip
          refine p_const 186 rfl rfl ?_
          refine p_istore (ls' := [some (.inr (.inr 66)), some (.inl k), some (.inl n), some (.inl kh), some (.inl (kb h)), some (.inl (told w)), some (.inl r), some (.inl 0), w8]) 188 rfl rfl (Nat.le_of_ble_eq_true rfl) rfl ?_
          refine p_const 189 rfl rfl ?_
          refine p_istore (ls' := [some (.inr (.inr 66)), some (.inl k), some (.inl n), some (.inl kh), some (.inl (kb h)), some (.inl (told w)), some (.inl r), some (.inl 0), some (.inl 0)]) 191 rfl rfl (Nat.le_of_ble_eq_true rfl) rfl ?_
          -- leaf 2: loop 191 [some (.inr (.inr 66)), some (.inl k), some (.inl n), some (.inl kh), some (.inl (kb h)), some (.inl (told w)), some (.inl r), some (.inl 0), some (.inl 0)] st=[] h=y2  kp2
          exact J191 M lo _ S2 kp2 (O1.kp k2' rdA_open) kb0 kh0 oo oh okM okL b83' b125' r102 r103 M.length 0 0 0 r rfl (by omega) (Or.inr ⟨rfl, fun z => by have := z.1; omega⟩)
        · skip
          refine p_const 182 rfl rfl ?_
          refine p_goto 186 rfl rfl ?_
          refine p_istore (ls' := [some (.inr (.inr 66)), some (.inl k), some (.inl n), some (.inl kh), some (.inl (kb h)), some (.inl (told w)), some (.inl r), some (.inl 1), w8]) 188 rfl rfl (Nat.le_of_ble_eq_true rfl) rfl ?_
          refine p_const 189 rfl rfl ?_
          refine p_istore (ls' := [some (.inr (.inr 66)), some (.inl k), some (.inl n), some (.inl kh), some (.inl (kb h)), some (.inl (told w)), some (.inl r), some (.inl 1), some (.inl 0)]) 191 rfl rfl (Nat.le_of_ble_eq_true rfl) rfl ?_
          -- leaf 3: loop 191 [some (.inr (.inr 66)), some (.inl k), some (.inl n), some (.inl kh), some (.inl (kb h)), some (.inl (told w)), some (.inl r), some (.inl 1), some (.inl 0)] st=[] h=y2  kp2
          exact J191 M lo _ S2 kp2 (O1.kp k2' rdA_open) kb0 kh0 oo oh okM okL b83' b125' r102 r103 M.length 0 0 1 r rfl (by omega) (Or.inl ⟨rfl, by omega, fun x hx => by omega⟩)
      · skip
        refine p_const 167 rfl rfl ?_
        refine p_iret rfl rfl ?_
        -- leaf 4: answer [.inl 0] h=y2  kp2
        refine no _ (Or.inr (Or.inr (Or.inr ?_))) kp2 S2
        rcases P with ⟨z, _⟩ | ⟨_, z⟩
        · omega
        · exact z
  have J95 : ∀ (M : List Int), okl M → only (Rd (Ws h kh s t (zh h t)) (told w)) M → kb h ≠ 0 → kh ≠ 0 → ∀ (c i : Nat) (j : Int) (w8 : Option PV) (h1 : PH), j = i → i + c = M.length → Shape h1 → Keep mtkA h h1 → gv h1 66 83 = M.length → (∀ j : Nat, j < 4 → gv h1 103 j = pad M j) → (∀ j : Nat, j < i → gv h1 125 j = nm h kh (pad M j)) →
      Wp (d + 9) 0 0 M_X12_taken1 95 [some (.inr (.inr 66)), some (.inl k), some (.inl n), some (.inl kh), some (.inl (kb h)), some (.inl (told w)), some (.inl 1), some (.inl j), w8] [] h1 q := by
    intro M okM oh kb0 kh0 c
    have m4 := okM.1
    have kh2 : 1 ≤ kh ∧ kh ≤ 200 := by rcases hka with ⟨_, y⟩ | ⟨y1, y2, _⟩ <;> omega
    induction c with
    | zero =>
      intro i j w8 h1 hj hc S1 k1 b83 b103 b125
      refine p_iload 97 rfl rfl rfl ?_
      refine p_aload 98 rfl rfl rfl ?_
      refine p_getfi (j := 83) (z := (M.length : Int)) 101 rfl rfl rfl (tg_66 S1) rfl b83 ?_
      refine p_ic_ge_t 134 rfl rfl (by omega) ?_
      -- leaf 1: loop 134 [some (.inr (.inr 66)), some (.inl k), some (.inl n), some (.inl kh), some (.inl (kb h)), some (.inl (told w)), some (.inl 1), some (.inl j), w8] st=[] h=h1 
      exact J134 1 _ _ h1 S1 k1 kb0 kh0 (Or.inl ⟨rfl, M, oh, okM, b83, fun j hj => b125 j (by omega)⟩)
    | succ c ih =>
      intro i j w8 h1 hj hc S1 k1 b83 b103 b125
      have e103 : gv h1 103 j = pad M i := by rw [hj]; exact b103 i (by omega)
      have gx : 0 ≤ pad M i ∧ pad M i < 40 := by
        unfold pad
        rw [List.getD_eq_getElem?_getD, List.getElem?_eq_getElem (by omega)]
        exact okM.2 _ (List.getElem_mem _)
      have e80 : gv h1 80 (40 * kh + pad M i) = nm h kh (pad M i) := k1.1 80 _ rfl
      refine p_iload 97 rfl rfl rfl ?_
      refine p_aload 98 rfl rfl rfl ?_
      refine p_getfi (j := 83) (z := (M.length : Int)) 101 rfl rfl rfl (tg_66 S1) rfl b83 ?_
      refine p_ic_ge_f 104 rfl rfl (by omega) ?_
      refine p_aload 105 rfl rfl rfl ?_
      refine p_getfr (j := 84) (z := 125) 108 rfl rfl rfl (tg_66 S1) rfl (fi_66_84 S1) ?_
      refine p_iload 110 rfl rfl rfl ?_
      refine p_aload 111 rfl rfl rfl ?_
      refine p_getfr (j := 21) (z := 80) 114 rfl rfl rfl (tg_66 S1) rfl (fi_66_21 S1) ?_
      refine p_const 116 rfl rfl ?_
      refine p_iload 117 rfl rfl rfl ?_
      refine p_imul (z := 40 * kh) 118 rfl rfl (w32_id ⟨(by omega), (by omega)⟩) ?_
      refine p_aload 119 rfl rfl rfl ?_
      refine p_getfr (j := 54) (z := 103) 122 rfl rfl rfl (tg_66 S1) rfl (fi_66_54 S1) ?_
      refine p_iload 124 rfl rfl rfl ?_
      refine p_iald (w := 400) (z := (pad M i)) 125 rfl rfl (tg_103 S1) (ln_103 S1) (by omega) (by omega) e103 ?_
      refine p_iadd (z := (40 * kh) + (pad M i)) 126 rfl rfl (w32_id ⟨(by omega), (by omega)⟩) ?_
      refine p_lald (w := 8040) (z := gv h1 80 ((40 * kh) + (pad M i))) 127 rfl rfl (tg_80 S1) (ln_80 S1) (by omega) (by omega) rfl ?_
      refine p_last (w := 4) 128 rfl rfl (by decide) (tg_125 S1) (ln_125 S1) (by omega) (by omega) ?_
      refine p_nmh (fun y1 e1 => ?_)
      have S1 : Shape y1 := by rw [e1]; exact S1.svA fa_125 _ _
      refine p_iinc (y := j + 1) (ls' := [some (.inr (.inr 66)), some (.inl k), some (.inl n), some (.inl kh), some (.inl (kb h)), some (.inl (told w)), some (.inl 1), some (.inl (j + 1)), w8]) 131 rfl rfl rfl (w32_id ⟨(by omega), (by omega)⟩) rfl ?_
      refine p_goto 95 rfl rfl ?_
      -- leaf 1: loop 95 [some (.inr (.inr 66)), some (.inl k), some (.inl n), some (.inl kh), some (.inl (kb h)), some (.inl (told w)), some (.inl 1), some (.inl (j + 1)), w8] st=[] h=y1 e1
      refine ih (i + 1) (j + 1) _ _ (by omega) (by omega) S1 (by rw [e1]; exact k1.sv rfl _) (by rw [e1, sv_ne (by decide)]; exact b83) (fun x hx => by rw [e1, sv_ne (by decide)]; exact b103 x hx) (fun x hx => ?_)
      rw [e1]
      by_cases y : x = i
      · rw [y, ← hj, sv_eq]; exact e80
      · rw [sv_nf (by omega)]; exact b125 x (by omega)
  have J73 : ∀ (r : Int) (h1 : PH), Shape h1 → Keep mtkA h h1 → kb h ≠ 0 → kh ≠ 0 → ((r = 1 ∧ ∃ M, only (Rd (Ws h kh s t (zh h t)) (told w)) M ∧ okl M ∧ RowsM h1 [M] 2) ∨ (r = 0 ∧ ¬ ∃ l, only (Rd (Ws h kh s t (zh h t)) (told w)) l)) →
      Wp (d + 9) 0 0 M_X12_taken1 73 [some (.inr (.inr 66)), some (.inl k), some (.inl n), some (.inl kh), some (.inl (kb h)), some (.inl (told w)), some (.inl r), none, none] [] h1 q := by
    intro r h1 S1 k1 kb0 kh0 P
    rcases P with ⟨rfl, M, oh, okM, RM⟩ | ⟨rfl, nb⟩
    · obtain ⟨r102, r103⟩ := RM.nms
      refine p_aload 74 rfl rfl rfl ?_
      refine p_iload 76 rfl rfl rfl ?_
      refine p_if_eq_f 79 rfl rfl (by decide) ?_
      refine p_aload 80 rfl rfl rfl ?_
      refine p_getfr (j := 53) (z := 102) 83 rfl rfl rfl (tg_66 S1) rfl (fi_66_53 S1) ?_
      refine p_const 84 rfl rfl ?_
      refine p_iald (w := 100) (z := (M.length : Int)) 85 rfl rfl (tg_102 S1) (ln_102 S1) (by decide) (by decide) r102 ?_
      refine p_goto 89 rfl rfl ?_
      refine p_putfi (j := 83) 92 rfl rfl rfl (fun z => absurd z (by decide)) (tg_66 S1) rfl ?_
      refine p_nmh (fun y1 e1 => ?_)
      have S1 : Shape y1 := by rw [e1]; exact S1.svF ff_66_83 _
      have kp1 : Keep mtkA h y1 := by rw [e1]; exact k1.sv rfl _
      refine p_const 93 rfl rfl ?_
      refine p_istore (ls' := [some (.inr (.inr 66)), some (.inl k), some (.inl n), some (.inl kh), some (.inl (kb h)), some (.inl (told w)), some (.inl 1), some (.inl 0), none]) 95 rfl rfl (Nat.le_of_ble_eq_true rfl) rfl ?_
      -- leaf 1: loop 95 [some (.inr (.inr 66)), some (.inl k), some (.inl n), some (.inl kh), some (.inl (kb h)), some (.inl (told w)), some (.inl 1), some (.inl 0), none] st=[] h=y1 e1 kp1
      exact J95 M okM oh kb0 kh0 M.length 0 0 _ _ rfl (by omega) S1 kp1 (by rw [e1, sv_eq]) (fun x hx => by rw [e1, sv_ne (by decide)]; exact r103 x hx) (fun x hx => by omega)
    · have go : ∀ (h2 : PH), Shape h2 → Keep mtkA h h2 → gv h2 66 83 = 0 → Wp (d + 9) 0 0 M_X12_taken1 95 [some (.inr (.inr 66)), some (.inl k), some (.inl n), some (.inl kh), some (.inl (kb h)), some (.inl (told w)), some (.inl 0), some (.inl 0), none] [] h2 q := by
        intro h2 S2 k2 b83
        refine p_iload 97 rfl rfl rfl ?_
        refine p_aload 98 rfl rfl rfl ?_
        refine p_getfi (j := 83) (z := 0) 101 rfl rfl rfl (tg_66 S2) rfl b83 ?_
        refine p_ic_ge_t 134 rfl rfl (by decide) ?_
        -- leaf 1: loop 134 [some (.inr (.inr 66)), some (.inl k), some (.inl n), some (.inl kh), some (.inl (kb h)), some (.inl (told w)), some (.inl 0), some (.inl 0), none] st=[] h=h2 
        exact J134 0 _ _ h2 S2 k2 kb0 kh0 (Or.inr ⟨rfl, nb⟩)
      refine p_aload 74 rfl rfl rfl ?_
      refine p_iload 76 rfl rfl rfl ?_
      refine p_if_eq_t 88 rfl rfl (by decide) ?_
      refine p_const 89 rfl rfl ?_
      refine p_putfi (j := 83) 92 rfl rfl rfl (fun z => absurd z (by decide)) (tg_66 S1) rfl ?_
      refine p_nmh (fun y1 e1 => ?_)
      have S1 : Shape y1 := by rw [e1]; exact S1.svF ff_66_83 _
      have kp1 : Keep mtkA h y1 := by rw [e1]; exact k1.sv rfl _
      refine p_const 93 rfl rfl ?_
      refine p_istore (ls' := [some (.inr (.inr 66)), some (.inl k), some (.inl n), some (.inl kh), some (.inl (kb h)), some (.inl (told w)), some (.inl 0), some (.inl 0), none]) 95 rfl rfl (Nat.le_of_ble_eq_true rfl) rfl ?_
      -- leaf 1: loop 95 [some (.inr (.inr 66)), some (.inl k), some (.inl n), some (.inl kh), some (.inl (kb h)), some (.inl (told w)), some (.inl 0), some (.inl 0), none] st=[] h=y1 e1 kp1
      exact go _ S1 kp1 (by rw [e1, sv_eq])
  refine p_aload 1 rfl rfl rfl ?_
  refine p_iload 2 rfl rfl rfl ?_
  refine p_callv (le := [some (.inr (.inr 66)), some (.inl n), none, none]) (as := [.inr (.inr 66), .inl n]) (rest := []) 5 0 0 0 0 rfl rfl (Nat.le_of_ble_eq_true rfl) rfl (Nat.le_of_ble_eq_true rfl) rfl rfl (Nat.le_of_ble_eq_true rfl) rfl (Nat.le_of_ble_eq_true rfl) rfl (Nat.le_refl _) (Nat.le_refl _) rfl rfl (tg_66 S) ?_
  refine m_bookAt S n A (by omega) (by omega) ?_
  show Wp (d + 9) 0 0 M_X12_taken1 5 [some (.inr (.inr 66)), some (.inl k), some (.inl n), none, none, none, none, none, none] [.inl (bkAt h n (n).toNat)] h _
  refine p_istore (ls' := [some (.inr (.inr 66)), some (.inl k), some (.inl n), some (.inl (bkAt h n (n).toNat)), none, none, none, none, none]) 6 rfl rfl (Nat.le_of_ble_eq_true rfl) rfl ?_
  refine p_aload 7 rfl rfl rfl ?_
  refine p_aload 8 rfl rfl rfl ?_
  refine p_callv (le := [some (.inr (.inr 66))]) (as := [.inr (.inr 66)]) (rest := [.inr (.inr 66)]) 11 0 0 0 0 rfl rfl (Nat.le_of_ble_eq_true rfl) rfl (Nat.le_of_ble_eq_true rfl) rfl rfl (Nat.le_of_ble_eq_true rfl) rfl (Nat.le_of_ble_eq_true rfl) rfl (Nat.le_refl _) (Nat.le_refl _) rfl rfl (tg_66 S) ?_
  refine m_now S  (A0) ?_
  show Wp (d + 9) 0 0 M_X12_taken1 11 [some (.inr (.inr 66)), some (.inl k), some (.inl n), some (.inl (bkAt h n (n).toNat)), none, none, none, none, none] [.inl (nw h), .inr (.inr 66)] h _
  refine p_callv (le := [some (.inr (.inr 66)), some (.inl (nw h)), none, none]) (as := [.inr (.inr 66), .inl (nw h)]) (rest := []) 14 0 0 0 0 rfl rfl (Nat.le_of_ble_eq_true rfl) rfl (Nat.le_of_ble_eq_true rfl) rfl rfl (Nat.le_of_ble_eq_true rfl) rfl (Nat.le_of_ble_eq_true rfl) rfl (Nat.le_refl _) (Nat.le_refl _) rfl rfl (tg_66 S) ?_
  refine m_bookAt S (nw h) A (by omega) (by omega) ?_
  show Wp (d + 9) 0 0 M_X12_taken1 14 [some (.inr (.inr 66)), some (.inl k), some (.inl n), some (.inl (bkAt h n (n).toNat)), none, none, none, none, none] [.inl (bkAt h (nw h) ((nw h)).toNat)] h _
  refine p_istore (ls' := [some (.inr (.inr 66)), some (.inl k), some (.inl n), some (.inl (bkAt h n (n).toNat)), some (.inl (bkAt h (nw h) ((nw h)).toNat)), none, none, none, none]) 16 rfl rfl (Nat.le_of_ble_eq_true rfl) rfl ?_
  refine p_iload 17 rfl rfl rfl ?_
  refine p_if_eq 20 25 rfl rfl rfl (fun c3 => ?_) (fun c3 => ?_)
  · skip
    refine p_const 26 rfl rfl ?_
    refine p_iret rfl rfl ?_
    -- leaf 1: answer [.inl 0] h=h 
    exact no _ (Or.inr (Or.inl (by rw [← hh]; assumption))) (Keep.rf _ _) S
  · skip
    refine p_iload 22 rfl rfl rfl ?_
    refine p_if_ne 25 27 rfl rfl rfl (fun c4 => ?_) (fun c4 => ?_)
    · skip
      refine p_aload 28 rfl rfl rfl ?_
      refine p_aload 29 rfl rfl rfl ?_
      refine p_getfr (j := 44) (z := 97) 32 rfl rfl rfl (tg_66 S) rfl (fi_66_44 S) ?_
      refine p_iload 33 rfl rfl rfl ?_
      refine p_iald (w := 201) (z := w) 34 rfl rfl (tg_97 S) (ln_97 S) (by omega) (by omega) f97 ?_
      refine p_callv (le := [some (.inr (.inr 66)), some (.inl w), none, none]) (as := [.inr (.inr 66), .inl w]) (rest := []) 37 0 0 0 0 rfl rfl (Nat.le_of_ble_eq_true rfl) rfl (Nat.le_of_ble_eq_true rfl) rfl rfl (Nat.le_of_ble_eq_true rfl) rfl (Nat.le_of_ble_eq_true rfl) rfl (Nat.le_refl _) (Nat.le_refl _) rfl rfl (tg_66 S) ?_
      refine m_isHo S w  (fun r5 y5 p5 S5 => ?_)
      have kp5 : Keep mtkA h y5 := (p5.1.wide hoA_mtkA)
      show Wp (d + 9) 0 0 M_X12_taken1 37 [some (.inr (.inr 66)), some (.inl k), some (.inl n), some (.inl (bkAt h n (n).toNat)), some (.inl (bkAt h (nw h) ((nw h)).toNat)), none, none, none, none] [.inl r5] y5 _
      refine p_pop 38 rfl rfl nl_i ?_
      have q5 : gv y5 66 38 = rl w ∧ ∀ j : Nat, (j : Int) < rl w → gv y5 92 j = sg w (rl w) j ∧ gv y5 93 j = lt w (rl w) j := by
        rcases p5.2 with ⟨_, _, a, b⟩ | ⟨_, b⟩
        · exact ⟨a, b⟩
        · exact absurd ho b
      have kh0 : kh ≠ 0 := by rw [← hh]; exact c3
      obtain ⟨h1', h2', _, Rh⟩ : 1 ≤ kh ∧ kh ≤ 200 ∧ 128 ≤ gv h 19 kh ∧ BkR h (gv h 19 kh) kh := by
        rcases hka with ⟨_, y⟩ | y
        · exact absurd y kh0
        · exact y
      refine p_aload 39 rfl rfl rfl ?_
      refine p_aload 40 rfl rfl rfl ?_
      refine p_getfi (j := 38) (z := gv y5 66 38) 43 rfl rfl rfl (tg_66 S5) rfl rfl ?_
      refine p_callv (le := [some (.inr (.inr 66)), some (.inl (gv y5 66 38)), none, none]) (as := [.inr (.inr 66), .inl (gv y5 66 38)]) (rest := []) 46 0 0 0 0 rfl rfl (Nat.le_of_ble_eq_true rfl) rfl (Nat.le_of_ble_eq_true rfl) rfl rfl (Nat.le_of_ble_eq_true rfl) rfl (Nat.le_of_ble_eq_true rfl) rfl (Nat.le_refl _) (Nat.le_refl _) rfl rfl (tg_66 S5) ?_
      refine m_rowOfH S5 (gv y5 66 38) (v := w) ⟨ho, q5.1, q5.2⟩ ?_
      show Wp (d + 9) 0 0 M_X12_taken1 46 [some (.inr (.inr 66)), some (.inl k), some (.inl n), some (.inl (bkAt h n (n).toNat)), some (.inl (bkAt h (nw h) ((nw h)).toNat)), none, none, none, none] [.inl (told w)] y5 _
      refine p_istore (ls' := [some (.inr (.inr 66)), some (.inl k), some (.inl n), some (.inl (bkAt h n (n).toNat)), some (.inl (bkAt h (nw h) ((nw h)).toNat)), some (.inl (told w)), none, none, none]) 48 rfl rfl (Nat.le_of_ble_eq_true rfl) rfl ?_
      have kB := kp5.wide mtkA_bkB
      refine p_aload 49 rfl rfl rfl ?_
      refine p_iload 50 rfl rfl rfl ?_
      refine p_aload 51 rfl rfl rfl ?_
      refine p_getfr (j := 42) (z := 95) 54 rfl rfl rfl (tg_66 S5) rfl (fi_66_42 S5) ?_
      refine p_iload 55 rfl rfl rfl ?_
      refine p_iald (w := 201) (z := s) 56 rfl rfl (tg_95 S5) (ln_95 S5) (by omega) (by omega) ((kp5.1 _ _ rfl).trans f95) ?_
      refine p_aload 57 rfl rfl rfl ?_
      refine p_getfr (j := 43) (z := 96) 60 rfl rfl rfl (tg_66 S5) rfl (fi_66_43 S5) ?_
      refine p_iload 61 rfl rfl rfl ?_
      refine p_iald (w := 201) (z := t) 62 rfl rfl (tg_96 S5) (ln_96 S5) (by omega) (by omega) ((kp5.1 _ _ rfl).trans f96) ?_
      refine p_callv (le := [some (.inr (.inr 66)), some (.inl (bkAt h n (n).toNat)), some (.inl s), some (.inl t), none, none]) (as := [.inr (.inr 66), .inl (bkAt h n (n).toNat), .inl s, .inl t]) (rest := []) 65 0 0 0 0 rfl rfl (Nat.le_of_ble_eq_true rfl) rfl (Nat.le_of_ble_eq_true rfl) rfl rfl (Nat.le_of_ble_eq_true rfl) rfl (Nat.le_of_ble_eq_true rfl) rfl (Nat.le_refl _) (Nat.le_refl _) rfl rfl (tg_66 S5) ?_
      refine m_opensBook S5 (bkAt h n (n).toNat) s t (a := gv h 19 kh) (by rw [hh]; exact Rh.kp kB) (F.kp kB) (by omega) (by omega) ls ltm (fun y7 p7 S7 => ?_)
      have kp7 : Keep mtkA h y7 := kp5.trans (p7.1.wide moA_mtkA)
      show Wp (d + 9) 0 0 M_X12_taken1 65 [some (.inr (.inr 66)), some (.inl k), some (.inl n), some (.inl (bkAt h n (n).toNat)), some (.inl (bkAt h (nw h) ((nw h)).toNat)), some (.inl (told w)), none, none, none] [] y7 _
      have kB7 := kp7.wide mtkA_bkB
      have O7 := p7.2
      rw [hh, zh_congr kB] at O7
      have R7 := Rh.kp kB7
      have tv7 := R7.tvs ls ltm zhi
      have n7 := R7.1
      have n70 := R7.2.1
      refine p_aload 66 rfl rfl rfl ?_
      refine p_iload 68 rfl rfl rfl ?_
      refine p_callv (le := [some (.inr (.inr 66)), some (.inl (told w))]) (as := [.inr (.inr 66), .inl (told w)]) (rest := []) 71 0 0 0 0 rfl rfl (Nat.le_of_ble_eq_true rfl) rfl (Nat.le_of_ble_eq_true rfl) rfl rfl (Nat.le_of_ble_eq_true rfl) rfl (Nat.le_of_ble_eq_true rfl) rfl (Nat.le_refl _) (Nat.le_refl _) rfl rfl (tg_66 S7) ?_
      refine m_isPlain S7 (told w) (told_rl ho).1 O7 (by omega) (by omega) (by omega) (by omega) tv7 (fun r8 y8 p8 S8 => ?_)
      have kp8 : Keep mtkA h y8 := kp7.trans (p8.1.wide rdA_mtkA)
      show Wp (d + 9) 0 0 M_X12_taken1 71 [some (.inr (.inr 66)), some (.inl k), some (.inl n), some (.inl (bkAt h n (n).toNat)), some (.inl (bkAt h (nw h) ((nw h)).toNat)), some (.inl (told w)), none, none, none] [.inl r8] y8 _
      refine p_istore (ls' := [some (.inr (.inr 66)), some (.inl k), some (.inl n), some (.inl (bkAt h n (n).toNat)), some (.inl (bkAt h (nw h) ((nw h)).toNat)), some (.inl (told w)), some (.inl r8), none, none]) 73 rfl rfl (Nat.le_of_ble_eq_true rfl) rfl ?_
      -- leaf 2: loop 73 [some (.inr (.inr 66)), some (.inl k), some (.inl n), some (.inl (bkAt h n (n).toNat)), some (.inl (bkAt h (nw h) ((nw h)).toNat)), some (.inl (told w)), some (.inl r8), none, none] st=[] h=y8  kp8
      rw [hh]
      refine J73 r8 _ S8 kp8 c4 kh0 ?_
      have p8' := p8.2
      rw [Ws_congr kB7] at p8'
      rcases p8' with ⟨a, l, o, rm⟩ | z
      · exact Or.inl ⟨a, l, o, Rd.ok (fun c id y => y.in Rh.2.1) ((o l).2 rfl), rm⟩
      · exact Or.inr z
    · skip
      refine p_const 26 rfl rfl ?_
      refine p_iret rfl rfl ?_
      -- leaf 3: answer [.inl 0] h=h 
      exact no _ (Or.inl (by show bkAt h (nw h) (nw h).toNat = 0; omega)) (Keep.rf _ _) S
theorem m_taken {d : Nat} {h : PH} {q : PQ} (S : Shape h) (A : AI h) (F : FI h) (k n : Int) (K : ∀ r h', (Keep mtkA h h' ∧ TakenR h k n r) → Shape h' → q (some (.inl r)) h') :
    Wp (d + 10) 0 0 M_X12_taken 0 [some (.inr (.inr 66)), some (.inl k), some (.inl n)] [] h q := by
  have A0 := A
  have a40 := A.1.2.2.1
  have no : ¬ argT h k n → q (some (.inl (-1))) h := fun z => K _ _ ⟨Keep.rf _ _, Or.inl ⟨z, rfl⟩⟩ S
  refine p_aload 1 rfl rfl rfl ?_
  refine p_iload 2 rfl rfl rfl ?_
  refine p_callv (le := [some (.inr (.inr 66)), some (.inl k)]) (as := [.inr (.inr 66), .inl k]) (rest := []) 5 0 0 0 0 rfl rfl (Nat.le_of_ble_eq_true rfl) rfl (Nat.le_of_ble_eq_true rfl) rfl rfl (Nat.le_of_ble_eq_true rfl) rfl (Nat.le_of_ble_eq_true rfl) rfl (Nat.le_refl _) (Nat.le_refl _) rfl rfl (tg_66 S) ?_
  refine m_isFlown S k (A0) (fun c1 => ?_) (fun c1 => ?_)
  · show Wp (d + 10) 0 0 M_X12_taken 5 [some (.inr (.inr 66)), some (.inl k), some (.inl n)] [.inl 1] h _
    refine p_if_eq_f 8 rfl rfl (by decide) ?_
    refine p_iload 9 rfl rfl rfl ?_
    refine p_i2l 10 rfl rfl ?_
    refine p_lconst 11 rfl rfl ?_
    refine p_aload 12 rfl rfl rfl ?_
    refine p_getfi (j := 40) (z := gv h 66 40) 15 rfl rfl rfl (tg_66 S) rfl rfl ?_
    refine p_i2l 16 rfl rfl ?_
    refine p_calls (le := [some (.inr (.inl n)), none, some (.inr (.inl 0)), none, some (.inr (.inl (gv h 66 40))), none]) (as := [.inr (.inl n), .inr (.inl 0), .inr (.inl (gv h 66 40))]) (rest := []) 19 0 0 0 0 rfl rfl (Nat.le_of_ble_eq_true rfl) rfl (Nat.le_of_ble_eq_true rfl) rfl rfl (Nat.le_of_ble_eq_true rfl) rfl (Nat.le_of_ble_eq_true rfl) rfl (Nat.le_refl _) (Nat.le_refl _) rfl rfl ?_
    refine m_isIn S n 0 (gv h 66 40)  (fun c2 => ?_) (fun c2 => ?_)
    · show Wp (d + 10) 0 0 M_X12_taken 19 [some (.inr (.inr 66)), some (.inl k), some (.inl n)] [.inl 1] h _
      refine p_if_eq_f 22 rfl rfl (by decide) ?_
      refine p_aload 23 rfl rfl rfl ?_
      refine p_iload 24 rfl rfl rfl ?_
      refine p_iload 25 rfl rfl rfl ?_
      refine p_callv (le := [some (.inr (.inr 66)), some (.inl k), some (.inl n), none, none, none, none, none, none]) (as := [.inr (.inr 66), .inl k, .inl n]) (rest := []) 28 0 0 0 0 rfl rfl (Nat.le_of_ble_eq_true rfl) rfl (Nat.le_of_ble_eq_true rfl) rfl rfl (Nat.le_of_ble_eq_true rfl) rfl (Nat.le_of_ble_eq_true rfl) rfl (Nat.le_refl _) (Nat.le_refl _) rfl rfl (tg_66 S) ?_
      refine m_taken1 S A F k n (A.fl c1.1 c1.2) rfl rfl rfl (by omega) (by omega) (fun r3 y3 p3 S3 => ?_)
      have kp3 : Keep mtkA h y3 := p3.1
      show Wp (d + 10) 0 0 M_X12_taken 28 [some (.inr (.inr 66)), some (.inl k), some (.inl n)] [.inl r3] y3 _
      refine p_goto 32 rfl rfl ?_
      refine p_iret rfl rfl ?_
      -- leaf 1: answer [.inl r3] h=y3  kp3
      exact K _ _ ⟨kp3, Or.inr ⟨⟨c1, by omega, by omega⟩, p3.2.1⟩⟩ S3
    · show Wp (d + 10) 0 0 M_X12_taken 19 [some (.inr (.inr 66)), some (.inl k), some (.inl n)] [.inl 0] h _
      refine p_if_eq_t 31 rfl rfl (by decide) ?_
      refine p_const 32 rfl rfl ?_
      refine p_iret rfl rfl ?_
      -- leaf 2: answer [.inl (-1)] h=h 
      exact no (fun z => by have := z.2; omega)
  · show Wp (d + 10) 0 0 M_X12_taken 5 [some (.inr (.inr 66)), some (.inl k), some (.inl n)] [.inl 0] h _
    refine p_if_eq_t 31 rfl rfl (by decide) ?_
    refine p_const 32 rfl rfl ?_
    refine p_iret rfl rfl ?_
    -- leaf 3: answer [.inl (-1)] h=h 
    exact no (fun z => c1 z.1)

