/-! A STATEMENT and the BOOK, the class's side (by wip/whole/gen/gen87.py) -/
def prgG (G : List Sns) : List Int := G.flatMap (fun x => x.2.2)
theorem TsOk.len {L : List Tok} {i j : Nat} {c : List Int} (h : TsOk L i j c) : i ≤ j ∧ c.length + i ≤ j := by
  rcases h with ⟨_, d⟩ | ⟨_, a, b⟩
  · have := d.len1 (by decide); omega
  · rw [a, b]; exact ⟨Nat.le_refl _, by show 0 + _ ≤ _; omega⟩
theorem StOk.len {L : List Tok} {G : List Sns} {i j : Nat} {s : Sns} (h : StOk L G i j s) : i < j ∧ s.2.2.length + i ≤ j := by
  obtain ⟨_, _, _, _, m, t, _, e, _⟩ := h
  have := t.len
  omega
theorem SnX.snoc {h h' : PH} {G : List Sns} (X : SnX h G) (s : Sns) (e8 : gv h' 11 8 = G.length + 1) (e12 : ∀ k : Nat, k < G.length → gv h' 12 k = gv h 12 k) (e13 : ∀ k : Nat, k < G.length → gv h' 13 k = gv h 13 k) (e14 : ∀ k : Nat, k < G.length → gv h' 14 k = gv h 14 k) (n12 : gv h' 12 G.length = s.1) (n13 : gv h' 13 G.length = s.2.1) (n14 : gv h' 14 G.length = (prgG (G ++ [s])).length) : SnX h' (G ++ [s]) := by
  refine ⟨by rw [e8, List.length_append]; rfl, fun i y hy => ?_⟩
  by_cases z : i < G.length
  · rw [List.getElem?_append_left z] at hy
    rw [e12 i z, e13 i z, e14 i z, List.take_append_of_le_length (by omega)]
    exact X.2 i y hy
  · rw [List.getElem?_append_right (by omega)] at hy
    have y0 : i = G.length := by
      apply Decidable.byContradiction
      intro y0
      rw [List.getElem?_eq_none (by show 1 ≤ i - G.length; omega)] at hy
      cases hy
    rw [y0, Nat.sub_self] at hy
    have hy : some s = some y := hy
    cases hy
    rw [y0]
    refine ⟨n12, n13, ?_⟩
    rw [n14, List.take_of_length_le (by rw [List.length_append]; exact Nat.le_refl _)]; rfl
theorem SnX.of {h h' : PH} {G : List Sns} (X : SnX h G) (e8 : gv h' 11 8 = gv h 11 8) (e : ∀ a i, a = 12 ∨ a = 13 ∨ a = 14 → gv h' a i = gv h a i) : SnX h' G := ⟨e8.trans X.1, fun i s hs => by rw [e 12 i (Or.inl rfl), e 13 i (Or.inr (Or.inl rfl)), e 14 i (Or.inr (Or.inr rfl))]; exact X.2 i s hs⟩
def stX (a i : Int) : Bool := decide ((a = 11 ∧ (1 ≤ i ∧ i ≤ 8 ∨ i = 13)) ∨ (12 ≤ a ∧ a ≤ 15))
theorem stX_b : ∀ a i, (128 : Int) ≤ a → stX a i = false := fun a i h => decide_eq_false (by omega)
theorem tsA_stX : ∀ a i, stX a i = false → tsA a i = false := fun a i => dw (by omega)
theorem tnA_stX : ∀ a i, stX a i = false → tnA a i = false := fun a i => dw (by omega)
theorem tcA_stX : ∀ a i, stX a i = false → tcA a i = false := fun a i => dw (by omega)
theorem ppA_stX : ∀ a i, stX a i = false → ppA a i = false := fun a i => dw (by omega)
theorem avA_stX : ∀ a i, stX a i = false → avA a i = false := fun a i => dw (by omega)
theorem TkH.st {h h' : PH} {L : List Tok} (X : TkH h L) (k : Keep stX h h') : TkH h' L := X.of (fun a i z => k.1 a i (decide_eq_false (by omega)))
theorem PrX.of {h h' : PH} {P : List Int} (X : PrX h P) (e1 : gv h' 11 13 = gv h 11 13) (e2 : ∀ i, gv h' 15 i = gv h 15 i) : PrX h' P := ⟨e1.trans X.1, fun j t hj => (e2 j).trans (X.2 j t hj)⟩
theorem x_statement {d : Nat} {h : PH} {q : PQ} (S : Shape h) {L : List Tok} {i : Nat} {G : List Sns} (B : TL L) (X : TkH h L) (C : CurX h L i) (Y : SnX h G) (Z : PrX h ((prgG G).map tcf)) (g40 : G.length < 40) (pl : (prgG G).length ≤ i)
    (K : ∀ x h', (Keep stX h h' ∧ ((x = 1 ∧ ∃ j s, StOk L G i j s ∧ CurX h' L j ∧ SnX h' (G ++ [s]) ∧ PrX h' ((prgG (G ++ [s])).map tcf)) ∨ (x = 0 ∧ ∃ k p, StBad L G i k p ∧ gv h' 11 6 = k ∧ gv h' 11 7 = p))) → Shape h' → q (some (.inl x)) h') :
    Wp (d + 30) 0 0 M_X2_statement 0 [some (.inr (.inr 11))] [] h q := by
  have k0 := Keep.rf stX h
  have l7 := B.1
  have bad : ∀ (k p : Int) (h' : PH), StBad L G i k p → Keep stX h h' → gv h' 11 6 = k → gv h' 11 7 = p → Shape h' → q (some (.inl 0)) h' := fun k p h' n kp a b S' => K 0 h' ⟨kp, Or.inr ⟨rfl, k, p, n, a, b⟩⟩ S'
  have J59 : ∀ (j : Nat) (c : List Int) (h1 : PH), isWd L i 20101733 → NmOk L G (i + 1) → isWd L (i + 2) 307 → CdOk L (i + 3) → TsOk L (i + 4) j c → Shape h1 → Keep stX h h1 → CurX h1 L j → gv h1 11 8 = G.length → (∀ k : Nat, k < G.length → gv h1 12 k = gv h 12 k) → (∀ k : Nat, k < G.length → gv h1 13 k = gv h 13 k) → (∀ k : Nat, k < G.length → gv h1 14 k = gv h 14 k) → gv h1 12 G.length = (tk L (i + 1)).2.2.2 → gv h1 13 G.length = (tk L (i + 3)).2.2.2 → PrX h1 ((prgG G).map tcf ++ c.map tcf) →
      Wp (d + 30) 0 0 M_X2_statement 59 [some (.inr (.inr 11))] [] h1 q := by
    intro j c h1 a1 a2 a3 a4 a5 S1 k1 C1 g8 e12 e13 e14 n12 n13 Z1
    have z1 := Z1.1
    refine p_aload 60 rfl rfl rfl ?_
    refine p_const 62 rfl rfl ?_
    refine p_callv (le := [some (.inr (.inr 11)), some (.inl 59)]) (as := [.inr (.inr 11), .inl 59]) (rest := []) 65 0 0 0 0 rfl rfl (Nat.le_of_ble_eq_true rfl) rfl (Nat.le_of_ble_eq_true rfl) rfl rfl (Nat.le_of_ble_eq_true rfl) rfl (Nat.le_of_ble_eq_true rfl) rfl (Nat.le_refl _) (Nat.le_refl _) rfl rfl (tg_11 S1) ?_
    refine takeSignX (by omega) S1 59 B (X.st k1) C1 (fun r1 y1 p1 S1 => ?_)
    have kp1 : Keep stX h y1 := k1.trans (p1.1.wide tsA_stX)
    show Wp (d + 30) 0 0 M_X2_statement 65 [some (.inr (.inr 11))] [.inl r1] y1 _
    refine p_if_eq 68 77 rfl rfl rfl (fun c2 => ?_) (fun c2 => ?_)
    · skip
      refine p_const 78 rfl rfl ?_
      refine p_zret rfl rfl (by decide) ?_
      -- leaf 1: answer [.inl 0] h=y1  kp1
      rcases p1.2 with ⟨z, _⟩ | ⟨_, n, a, b⟩
      · omega
      · exact bad _ _ _ (Or.inr ⟨a1, Or.inr ⟨a2, Or.inr ⟨a3, Or.inr ⟨a4, Or.inr ⟨j, c, a5, n, rfl, rfl⟩⟩⟩⟩⟩) kp1 a b S1
    · skip
      refine p_aload 69 rfl rfl rfl ?_
      refine p_getfi (j := 8) (z := gv y1 11 8) 72 rfl rfl rfl (tg_11 S1) rfl rfl ?_
      refine p_const 74 rfl rfl ?_
      refine p_ic_lt 77 79 rfl rfl rfl (fun c3 => ?_) (fun c3 => ?_)
      · skip
        have h8 : gv y1 11 8 = G.length := (p1.1.1 11 8 rfl).trans g8
        have h13 : gv y1 11 13 = ((prgG (G ++ [((tk L (i + 1)).2.2.2, (tk L (i + 3)).2.2.2, c)])).length : Int) := by
          rw [p1.1.1 11 13 rfl, z1, List.length_append, List.length_map, List.length_map]
          unfold prgG
          rw [List.flatMap_append, List.length_append]
          show _ = (((G.flatMap fun x => x.2.2).length + (c ++ []).length : Nat) : Int)
          rw [List.append_nil]
        refine p_aload 80 rfl rfl rfl ?_
        refine p_getfr (j := 11) (z := 14) 83 rfl rfl rfl (tg_11 S1) rfl (fi_11_11 S1) ?_
        refine p_aload 84 rfl rfl rfl ?_
        refine p_getfi (j := 8) (z := gv y1 11 8) 87 rfl rfl rfl (tg_11 S1) rfl rfl ?_
        refine p_aload 88 rfl rfl rfl ?_
        refine p_getfi (j := 13) (z := gv y1 11 13) 91 rfl rfl rfl (tg_11 S1) rfl rfl ?_
        refine p_iast (w := 40) 92 rfl rfl (by decide) (tg_14 S1) (ln_14 S1) (by omega) (by omega) ?_
        refine p_nmh (fun y4 e4 => ?_)
        have S4 : Shape y4 := by rw [e4]; exact S1.svA fa_14 _ _
        have kp4 : Keep stX h y4 := by rw [e4]; exact kp1.sv rfl _
        refine p_aload 93 rfl rfl rfl ?_
        refine p_dup 94 rfl rfl nl_r ?_
        refine p_getfi (j := 8) (z := gv y1 11 8) 97 rfl rfl rfl (tg_11 S4) rfl (by rw [e4, sv_ne (by decide)]) ?_
        refine p_const 98 rfl rfl ?_
        refine p_iadd (z := (gv y1 11 8) + 1) 99 rfl rfl (w32_id ⟨(by omega), (by omega)⟩) ?_
        refine p_putfi (j := 8) 102 rfl rfl rfl (fun z => absurd z (by decide)) (tg_11 S4) rfl ?_
        refine p_nmh (fun y5 e5 => ?_)
        have S5 : Shape y5 := by rw [e5]; exact S4.svF ff_11_8 _
        have kp5 : Keep stX h y5 := by rw [e5]; exact kp4.sv rfl _
        refine p_const 103 rfl rfl ?_
        refine p_zret rfl rfl (by decide) ?_
        -- leaf 2: answer [.inl 1] h=y5 e5,e4 kp5
        rcases p1.2 with ⟨_, n, C2⟩ | ⟨z, _⟩
        · have C5 : CurX y5 L (j + 1) := by
            obtain ⟨d0, d1, d2, d3, d4, d5, d6, d7⟩ := C2
            have f : ∀ k : Int, k ≠ 8 → gv y5 11 k = gv y1 11 k := fun k hk => by rw [e5, sv_nf (by omega), e4, sv_ne (by decide)]
            exact ⟨d0, (f 1 (by decide)).trans d1, (f 2 (by decide)).trans d2, (f 3 (by decide)).trans d3, (f 4 (by decide)).trans d4, (f 5 (by decide)).trans d5, (f 6 (by decide)).trans d6, (f 7 (by decide)).trans d7⟩
          refine K 1 _ ⟨kp5, Or.inl ⟨rfl, j + 1, ((tk L (i + 1)).2.2.2, (tk L (i + 3)).2.2.2, c), ⟨a1, a2, a3, a4, j, a5, n, rfl, rfl, rfl⟩, C5, Y.snoc _ ?_ ?_ ?_ ?_ ?_ ?_ ?_, ?_⟩⟩ S5
          · rw [e5, sv_eq, h8]
          · intro k hk; rw [e5, sv_ne (by decide), e4, sv_ne (by decide), p1.1.1 12 k rfl]; exact e12 k hk
          · intro k hk; rw [e5, sv_ne (by decide), e4, sv_ne (by decide), p1.1.1 13 k rfl]; exact e13 k hk
          · intro k hk; rw [e5, sv_ne (by decide), e4, sv_nf (by omega), p1.1.1 14 k rfl]; exact e14 k hk
          · rw [e5, sv_ne (by decide), e4, sv_ne (by decide), p1.1.1 12 _ rfl]; exact n12
          · rw [e5, sv_ne (by decide), e4, sv_ne (by decide), p1.1.1 13 _ rfl]; exact n13
          · rw [e5, sv_ne (by decide), e4, h8, sv_eq, h13]
          · have z : PrX y5 ((prgG G).map tcf ++ c.map tcf) := (Z1.ts p1.1).of (by rw [e5, sv_nf (by decide), e4, sv_ne (by decide)]) (fun i => by rw [e5, sv_ne (by decide), e4, sv_ne (by decide)])
            unfold prgG at z ⊢
            rw [List.flatMap_append, List.map_append]
            show PrX y5 (_ ++ (c ++ []).map tcf)
            rw [List.append_nil]; exact z
        · omega
      · skip
        refine p_const 78 rfl rfl ?_
        refine p_zret rfl rfl (by decide) ?_
        -- leaf 3: answer [.inl 0] h=y1  kp1
        exfalso
        have h8 : gv y1 11 8 = G.length := (p1.1.1 11 8 rfl).trans g8
        omega
  have CA := C
  refine p_aload 1 rfl rfl rfl ?_
  refine p_const 3 rfl rfl ?_
  refine p_callv (le := [some (.inr (.inr 11)), some (.inl 20101733)]) (as := [.inr (.inr 11), .inl 20101733]) (rest := []) 6 0 0 0 0 rfl rfl (Nat.le_of_ble_eq_true rfl) rfl (Nat.le_of_ble_eq_true rfl) rfl rfl (Nat.le_of_ble_eq_true rfl) rfl (Nat.le_of_ble_eq_true rfl) rfl (Nat.le_refl _) (Nat.le_refl _) rfl rfl (tg_11 S) ?_
  refine takeWordX (by omega) S 20101733 B (X.st k0) CA (fun r1 y1 p1 S1 => ?_)
  have kp1 : Keep stX h y1 := k0.trans (p1.1.wide tsA_stX)
  show Wp (d + 30) 0 0 M_X2_statement 6 [some (.inr (.inr 11))] [.inl r1] y1 _
  refine p_if_eq 9 33 rfl rfl rfl (fun c2 => ?_) (fun c2 => ?_)
  · skip
    refine p_const 34 rfl rfl ?_
    refine p_zret rfl rfl (by decide) ?_
    -- leaf 1: answer [.inl 0] h=y1  kp1
    rcases p1.2 with ⟨z, _⟩ | ⟨_, n, a, b⟩
    · omega
    · exact bad _ _ _ (Or.inl ⟨n, rfl, rfl⟩) kp1 a b S1
  · skip
    obtain ⟨w1, CA⟩ : isWd L i 20101733 ∧ CurX y1 L (i + 1) := by rcases p1.2 with ⟨_, a, b⟩ | ⟨z, _⟩; exact ⟨a, b⟩; omega
    have YA : SnX y1 G := Y.of (p1.1.1 11 8 rfl) (fun a i z => p1.1.1 a i (decide_eq_false (by omega)))
    refine p_aload 10 rfl rfl rfl ?_
    refine p_callv (le := [some (.inr (.inr 11)), none, none]) (as := [.inr (.inr 11)]) (rest := []) 13 0 0 0 0 rfl rfl (Nat.le_of_ble_eq_true rfl) rfl (Nat.le_of_ble_eq_true rfl) rfl rfl (Nat.le_of_ble_eq_true rfl) rfl (Nat.le_of_ble_eq_true rfl) rfl (Nat.le_refl _) (Nat.le_refl _) rfl rfl (tg_11 S1) ?_
    refine x_takeName S1 B (X.st kp1) CA YA g40 (fun r3 y3 p3 S3 => ?_)
    have kp3 : Keep stX h y3 := kp1.trans (p3.1.wide tnA_stX)
    show Wp (d + 30) 0 0 M_X2_statement 13 [some (.inr (.inr 11))] [.inl r3] y3 _
    refine p_if_eq 16 33 rfl rfl rfl (fun c4 => ?_) (fun c4 => ?_)
    · skip
      refine p_const 34 rfl rfl ?_
      refine p_zret rfl rfl (by decide) ?_
      -- leaf 2: answer [.inl 0] h=y3  kp3
      rcases p3.2.2 with ⟨z, _⟩ | ⟨_, k, p, n, a, b⟩
      · omega
      · exact bad _ _ _ (Or.inr ⟨w1, Or.inl n⟩) kp3 a b S3
    · skip
      obtain ⟨n1, CA, nv⟩ : NmOk L G (i + 1) ∧ CurX y3 L (i + 2) ∧ gv y3 12 G.length = (tk L (i + 1)).2.2.2 := by rcases p3.2.2 with ⟨_, a⟩ | ⟨z, _⟩; exact a; omega
      refine p_aload 17 rfl rfl rfl ?_
      refine p_const 20 rfl rfl ?_
      refine p_callv (le := [some (.inr (.inr 11)), some (.inl 307)]) (as := [.inr (.inr 11), .inl 307]) (rest := []) 23 0 0 0 0 rfl rfl (Nat.le_of_ble_eq_true rfl) rfl (Nat.le_of_ble_eq_true rfl) rfl rfl (Nat.le_of_ble_eq_true rfl) rfl (Nat.le_of_ble_eq_true rfl) rfl (Nat.le_refl _) (Nat.le_refl _) rfl rfl (tg_11 S3) ?_
      refine takeWordX (by omega) S3 307 B (X.st kp3) CA (fun r5 y5 p5 S5 => ?_)
      have kp5 : Keep stX h y5 := kp3.trans (p5.1.wide tsA_stX)
      show Wp (d + 30) 0 0 M_X2_statement 23 [some (.inr (.inr 11))] [.inl r5] y5 _
      refine p_if_eq 26 33 rfl rfl rfl (fun c6 => ?_) (fun c6 => ?_)
      · skip
        refine p_const 34 rfl rfl ?_
        refine p_zret rfl rfl (by decide) ?_
        -- leaf 3: answer [.inl 0] h=y5  kp5
        rcases p5.2 with ⟨z, _⟩ | ⟨_, n, a, b⟩
        · omega
        · exact bad _ _ _ (Or.inr ⟨w1, Or.inr ⟨n1, Or.inl ⟨n, rfl, rfl⟩⟩⟩) kp5 a b S5
      · skip
        obtain ⟨w2, CA⟩ : isWd L (i + 2) 307 ∧ CurX y5 L (i + 3) := by rcases p5.2 with ⟨_, a, b⟩ | ⟨z, _⟩; exact ⟨a, b⟩; omega
        have Y8 : gv y5 11 8 = (G.length : Int) := by rw [p5.1.1 11 8 rfl, p3.1.1 11 8 rfl, p1.1.1 11 8 rfl]; exact Y.1
        refine p_aload 27 rfl rfl rfl ?_
        refine p_callv (le := [some (.inr (.inr 11)), none]) (as := [.inr (.inr 11)]) (rest := []) 30 0 0 0 0 rfl rfl (Nat.le_of_ble_eq_true rfl) rfl (Nat.le_of_ble_eq_true rfl) rfl rfl (Nat.le_of_ble_eq_true rfl) rfl (Nat.le_of_ble_eq_true rfl) rfl (Nat.le_refl _) (Nat.le_refl _) rfl rfl (tg_11 S5) ?_
        refine x_takeCode (g := G.length) S5 B (X.st kp5) CA Y8 g40 (fun r7 y7 p7 S7 => ?_)
        have kp7 : Keep stX h y7 := kp5.trans (p7.1.wide tcA_stX)
        show Wp (d + 30) 0 0 M_X2_statement 30 [some (.inr (.inr 11))] [.inl r7] y7 _
        refine p_if_ne 33 35 rfl rfl rfl (fun c8 => ?_) (fun c8 => ?_)
        · skip
          obtain ⟨c1', CA, cv⟩ : CdOk L (i + 3) ∧ CurX y7 L (i + 4) ∧ gv y7 13 G.length = (tk L (i + 3)).2.2.2 := by rcases p7.2.2 with ⟨_, a⟩ | ⟨z, _⟩; exact a; omega
          have F8 : gv y7 11 8 = (G.length : Int) := (p7.1.1 11 8 rfl).trans Y8
          have F12 : ∀ k : Nat, k < G.length → gv y7 12 k = gv h 12 k := fun k hk => by rw [p7.1.1 12 k rfl, p5.1.1 12 k rfl, p3.2.1 k hk, p1.1.1 12 k rfl]
          have F13 : ∀ k : Nat, k < G.length → gv y7 13 k = gv h 13 k := fun k hk => by rw [p7.2.1 k hk, p5.1.1 13 k rfl, p3.1.1 13 k rfl, p1.1.1 13 k rfl]
          have F14 : ∀ k : Nat, k < G.length → gv y7 14 k = gv h 14 k := fun k hk => by rw [p7.1.1 14 k rfl, p5.1.1 14 k rfl, p3.1.1 14 k rfl, p1.1.1 14 k rfl]
          have FN : gv y7 12 G.length = (tk L (i + 1)).2.2.2 := by rw [p7.1.1 12 _ rfl, p5.1.1 12 _ rfl]; exact nv
          have ZA : PrX y7 ((prgG G).map tcf) := Z.of (by rw [p7.1.1 11 13 rfl, p5.1.1 11 13 rfl, p3.1.1 11 13 rfl, p1.1.1 11 13 rfl]) (fun k => by rw [p7.1.1 15 k rfl, p5.1.1 15 k rfl, p3.1.1 15 k rfl, p1.1.1 15 k rfl])
          refine p_aload 36 rfl rfl rfl ?_
          refine p_const 39 rfl rfl ?_
          refine p_callv (le := [some (.inr (.inr 11)), some (.inl 6642)]) (as := [.inr (.inr 11), .inl 6642]) (rest := []) 42 0 0 0 0 rfl rfl (Nat.le_of_ble_eq_true rfl) rfl (Nat.le_of_ble_eq_true rfl) rfl rfl (Nat.le_of_ble_eq_true rfl) rfl (Nat.le_of_ble_eq_true rfl) rfl (Nat.le_refl _) (Nat.le_refl _) rfl rfl (tg_11 S7) ?_
          refine isWordX S7 6642 CA (fun c9 => ?_) (fun c9 => ?_)
          · show Wp (d + 30) 0 0 M_X2_statement 42 [some (.inr (.inr 11))] [.inl 1] y7 _
            refine p_if_eq_f 45 rfl rfl (by decide) ?_
            refine p_aload 46 rfl rfl rfl ?_
            have kn : (tk L (i + 4)).1 ≠ 0 := by rw [c9.1]; decide
            refine p_callv (le := [some (.inr (.inr 11)), none, none]) (as := [.inr (.inr 11)]) (rest := []) 49 0 0 0 0 rfl rfl (Nat.le_of_ble_eq_true rfl) rfl (Nat.le_of_ble_eq_true rfl) rfl rfl (Nat.le_of_ble_eq_true rfl) rfl (Nat.le_of_ble_eq_true rfl) rfl (Nat.le_refl _) (Nat.le_refl _) rfl rfl (tg_11 S7) ?_
            refine advX S7 B (X.st kp7) CA kn (fun y10 p10 S10 => ?_)
            have kp10 : Keep stX h y10 := kp7.trans (p10.1.wide avA_stX)
            show Wp (d + 30) 0 0 M_X2_statement 49 [some (.inr (.inr 11))] [] y10 _
            have CA := p10.2
            have ZA := ZA.av p10.1
            refine p_aload 50 rfl rfl rfl ?_
            refine p_const 51 rfl rfl ?_
            refine p_callv (le := [some (.inr (.inr 11)), some (.inl 0), none]) (as := [.inr (.inr 11), .inl 0]) (rest := []) 54 0 0 0 0 rfl rfl (Nat.le_of_ble_eq_true rfl) rfl (Nat.le_of_ble_eq_true rfl) rfl rfl (Nat.le_of_ble_eq_true rfl) rfl (Nat.le_of_ble_eq_true rfl) rfl (Nat.le_refl _) (Nat.le_refl _) rfl rfl (tg_11 S10) ?_
            refine (allX B L.length (i + 5) (by omega)).2.2.2.2 (d + 29) 6 0 _ _ ((prgG G).map tcf) rfl (by show 3 * 6 + 7 ≤ d + 29; omega) S10 (X.st kp10) CA ZA (by rw [List.length_map]; omega) (fun r11 y11 p11 S11 => ?_)
            have kp11 : Keep stX h y11 := kp10.trans (p11.1.wide ppA_stX)
            show Wp (d + 30) 0 0 M_X2_statement 54 [some (.inr (.inr 11))] [.inl r11] y11 _
            refine p_if_ne 57 59 rfl rfl rfl (fun c12 => ?_) (fun c12 => ?_)
            · skip
              -- leaf 4: loop 59 [some (.inr (.inr 11))] st=[] h=y11  kp11
              obtain ⟨k11, r, dv, en⟩ := p11
              obtain ⟨j, c, er, C3, Z3⟩ := en.yes c12
              subst er
              have k10 := p10.1
              exact J59 j c _ w1 n1 w2 c1' (Or.inl ⟨c9, dv⟩) S11 kp11 C3 (by rw [k11.1 11 8 rfl, k10.1 11 8 rfl]; exact F8) (fun k hk => by rw [k11.1 12 k rfl, k10.1 12 k rfl]; exact F12 k hk) (fun k hk => by rw [k11.1 13 k rfl, k10.1 13 k rfl]; exact F13 k hk) (fun k hk => by rw [k11.1 14 k rfl, k10.1 14 k rfl]; exact F14 k hk) (by rw [k11.1 12 _ rfl, k10.1 12 _ rfl]; exact FN) (by rw [k11.1 13 _ rfl, k10.1 13 _ rfl]; exact cv) Z3
            · skip
              refine p_const 58 rfl rfl ?_
              refine p_zret rfl rfl (by decide) ?_
              -- leaf 5: answer [.inl 0] h=y11  kp11
              obtain ⟨k11, r, dv, en⟩ := p11
              obtain ⟨kk, pp, er, a, b⟩ := en.no (by omega)
              subst er
              exact bad _ _ _ (Or.inr ⟨w1, Or.inr ⟨n1, Or.inr ⟨w2, Or.inr ⟨c1', Or.inl ⟨c9, dv⟩⟩⟩⟩⟩) kp11 a b S11
          · show Wp (d + 30) 0 0 M_X2_statement 42 [some (.inr (.inr 11))] [.inl 0] y7 _
            refine p_if_eq_t 59 rfl rfl (by decide) ?_
            -- leaf 6: loop 59 [some (.inr (.inr 11))] st=[] h=y7  kp7
            exact J59 (i + 4) [] _ w1 n1 w2 c1' (Or.inr ⟨c9, rfl, rfl⟩) S7 kp7 CA F8 F12 F13 F14 FN cv (by rw [List.map_nil, List.append_nil]; exact ZA)
        · skip
          refine p_const 34 rfl rfl ?_
          refine p_zret rfl rfl (by decide) ?_
          -- leaf 7: answer [.inl 0] h=y7  kp7
          rcases p7.2.2 with ⟨z, _⟩ | ⟨_, k, p, n, a, b⟩
          · omega
          · exact bad _ _ _ (Or.inr ⟨w1, Or.inr ⟨n1, Or.inr ⟨w2, Or.inl n⟩⟩⟩) kp7 a b S7

