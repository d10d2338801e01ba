/-! A STATEMENT, the class's side (by wip/whole/gen/gen87.py) -/
/-- name, code, test -/
abbrev Sns := Int × Int × List Int
def own (v : Int) : Prop := v = 307 ∨ v = 498 ∨ v = 1420 ∨ v = 1476 ∨ v = 6642 ∨ v = 14836 ∨ v = 20101733 ∨ fcd v ≠ -1
def cN (f : Int → Int) (v : Int) : Nat → Int
  | 0 => 0
  | k + 1 => cN f v k + if f k = v then 1 else 0
theorem cN_in (f : Int → Int) (v : Int) : ∀ k : Nat, 0 ≤ cN f v k ∧ cN f v k ≤ k
  | 0 => ⟨Int.le_refl 0, Int.le_refl 0⟩
  | k + 1 => by
    have := cN_in f v k
    show 0 ≤ cN f v k + (if f k = v then 1 else 0) ∧ cN f v k + (if f k = v then 1 else 0) ≤ ((k + 1 : Nat) : Int)
    split <;> omega
theorem cN_congr {f g : Int → Int} {v : Int} : ∀ {k : Nat}, (∀ j : Nat, j < k → f j = g j) → cN f v k = cN g v k
  | 0, _ => rfl
  | k + 1, h => by
    show cN f v k + (if f k = v then 1 else 0) = cN g v k + (if g k = v then 1 else 0)
    rw [cN_congr (fun j hj => h j (by omega)), h k (by omega)]
def nmG (G : List Sns) (j : Int) : Int := (G.getD j.toNat (0, 0, [])).1
def SnX (h : PH) (G : List Sns) : Prop := gv h 11 8 = G.length ∧ ∀ (i : Nat) s, G[i]? = some s → gv h 12 i = s.1 ∧ gv h 13 i = s.2.1 ∧ gv h 14 i = ((G.take (i + 1)).flatMap (fun x => x.2.2)).length
theorem SnX.nm {h : PH} {G : List Sns} (X : SnX h G) {j : Nat} (hj : j < G.length) : gv h 12 j = nmG G j := by
  have z := (X.2 j _ (List.getElem?_eq_getElem hj)).1
  rw [z]
  unfold nmG
  rw [Int.toNat_natCast, List.getD_eq_getElem?_getD, List.getElem?_eq_getElem hj]; rfl
def NmOk (L : List Tok) (G : List Sns) (i : Nat) : Prop := (tk L i).1 = 1 ∧ ¬ own (tk L i).2.2.2 ∧ (tk L i).2.2.1 - (tk L i).2.1 ≤ 6 ∧ cN (nmG G) (tk L i).2.2.2 G.length ≤ 5
def NmBad (L : List Tok) (G : List Sns) (i : Nat) (k p : Int) : Prop := (¬ ((tk L i).1 = 1 ∧ ¬ own (tk L i).2.2.2) ∧ k = 1 ∧ p = (tk L i).2.1) ∨ ((tk L i).1 = 1 ∧ ¬ own (tk L i).2.2.2 ∧ 6 < (tk L i).2.2.1 - (tk L i).2.1 ∧ k = 1 ∧ p = (tk L i).2.1 + 6) ∨ ((tk L i).1 = 1 ∧ ¬ own (tk L i).2.2.2 ∧ (tk L i).2.2.1 - (tk L i).2.1 ≤ 6 ∧ 6 ≤ cN (nmG G) (tk L i).2.2.2 G.length ∧ k = 2 ∧ p = (tk L i).2.1)
def CdOk (L : List Tok) (i : Nat) : Prop := (tk L i).1 = 3 ∧ 1 ≤ (tk L i).2.2.1 - (tk L i).2.1 - 1 ∧ (tk L i).2.2.1 - (tk L i).2.1 - 1 ≤ 4
def CdBad (L : List Tok) (i : Nat) (k p : Int) : Prop := ((tk L i).1 ≠ 3 ∧ k = 1 ∧ p = (tk L i).2.1) ∨ ((tk L i).1 = 3 ∧ (tk L i).2.2.1 - (tk L i).2.1 - 1 < 1 ∧ k = 1 ∧ p = (tk L i).2.2.1) ∨ ((tk L i).1 = 3 ∧ 4 < (tk L i).2.2.1 - (tk L i).2.1 - 1 ∧ k = 1 ∧ p = (tk L i).2.1 + 1 + 4)
def TsOk (L : List Tok) (i j : Nat) (c : List Int) : Prop := (isWd L i 6642 ∧ Dv L 7 [] 0 (i + 1) (okR j c)) ∨ (¬ isWd L i 6642 ∧ j = i ∧ c = [])
def StOk (L : List Tok) (G : List Sns) (i j' : Nat) (s : Sns) : Prop := isWd L i 20101733 ∧ NmOk L G (i + 1) ∧ isWd L (i + 2) 307 ∧ CdOk L (i + 3) ∧ ∃ j, TsOk L (i + 4) j s.2.2 ∧ isSg L j 59 ∧ j' = j + 1 ∧ s.1 = (tk L (i + 1)).2.2.2 ∧ s.2.1 = (tk L (i + 3)).2.2.2
def StBad (L : List Tok) (G : List Sns) (i : Nat) (k p : Int) : Prop := (¬ isWd L i 20101733 ∧ k = 1 ∧ p = (tk L i).2.1) ∨ (isWd L i 20101733 ∧ (NmBad L G (i + 1) k p ∨ (NmOk L G (i + 1) ∧ ((¬ isWd L (i + 2) 307 ∧ k = 1 ∧ p = (tk L (i + 2)).2.1) ∨ (isWd L (i + 2) 307 ∧ (CdBad L (i + 3) k p ∨ (CdOk L (i + 3) ∧ ((isWd L (i + 4) 6642 ∧ Dv L 7 [] 0 (i + 5) (bdR k p)) ∨ ∃ j c, TsOk L (i + 4) j c ∧ ¬ isSg L j 59 ∧ k = 1 ∧ p = (tk L j).2.1))))))))
theorem x_isOwn {d : Nat} {h : PH} {q : PQ} (S : Shape h) (v : Int) (K1 : own v → q (some (.inl 1)) h) (K2 : ¬ own v → q (some (.inl 0)) h) : Wp (d + 2) 0 0 M_X2_isOwnWord 0 [some (.inl v)] [] h q := by
  unfold own at K1 K2
  have fw : fcd v = -1 ↔ fgW v = -1 := by
    unfold fgW
    rcases fcd_in v with z | z | z | z | z <;> rw [z] <;> decide
  refine p_iload 1 rfl rfl rfl ?_
  refine p_swt rfl ?_
  refine ⟨fun c1 => ?_, fun c1 => ?_⟩
  · show Wp (d + 2) 0 0 M_X2_isOwnWord 68 [some (.inl v)] [] h _
    refine p_const 69 rfl rfl ?_
    refine p_zret rfl rfl (by decide) ?_
    -- leaf 1: answer [.inl 1] h=h 
    first | exact K1 (by omega) | (refine K2 ?_; have := fw.2; omega) | (refine K1 ?_; have := fw.1; omega)
  · have c1_0 := c1
    refine ⟨fun c1 => ?_, fun c1 => ?_⟩
    · show Wp (d + 2) 0 0 M_X2_isOwnWord 68 [some (.inl v)] [] h _
      refine p_const 69 rfl rfl ?_
      refine p_zret rfl rfl (by decide) ?_
      -- leaf 2: answer [.inl 1] h=h 
      first | exact K1 (by omega) | (refine K2 ?_; have := fw.2; omega) | (refine K1 ?_; have := fw.1; omega)
    · have c1_1 := c1
      refine ⟨fun c1 => ?_, fun c1 => ?_⟩
      · show Wp (d + 2) 0 0 M_X2_isOwnWord 68 [some (.inl v)] [] h _
        refine p_const 69 rfl rfl ?_
        refine p_zret rfl rfl (by decide) ?_
        -- leaf 3: answer [.inl 1] h=h 
        first | exact K1 (by omega) | (refine K2 ?_; have := fw.2; omega) | (refine K1 ?_; have := fw.1; omega)
      · have c1_2 := c1
        refine ⟨fun c1 => ?_, fun c1 => ?_⟩
        · show Wp (d + 2) 0 0 M_X2_isOwnWord 68 [some (.inl v)] [] h _
          refine p_const 69 rfl rfl ?_
          refine p_zret rfl rfl (by decide) ?_
          -- leaf 4: answer [.inl 1] h=h 
          first | exact K1 (by omega) | (refine K2 ?_; have := fw.2; omega) | (refine K1 ?_; have := fw.1; omega)
        · have c1_3 := c1
          refine ⟨fun c1 => ?_, fun c1 => ?_⟩
          · show Wp (d + 2) 0 0 M_X2_isOwnWord 68 [some (.inl v)] [] h _
            refine p_const 69 rfl rfl ?_
            refine p_zret rfl rfl (by decide) ?_
            -- leaf 5: answer [.inl 1] h=h 
            first | exact K1 (by omega) | (refine K2 ?_; have := fw.2; omega) | (refine K1 ?_; have := fw.1; omega)
          · have c1_4 := c1
            refine ⟨fun c1 => ?_, fun c1 => ?_⟩
            · show Wp (d + 2) 0 0 M_X2_isOwnWord 68 [some (.inl v)] [] h _
              refine p_const 69 rfl rfl ?_
              refine p_zret rfl rfl (by decide) ?_
              -- leaf 6: answer [.inl 1] h=h 
              first | exact K1 (by omega) | (refine K2 ?_; have := fw.2; omega) | (refine K1 ?_; have := fw.1; omega)
            · have c1_5 := c1
              refine ⟨fun c1 => ?_, fun c1 => ?_⟩
              · show Wp (d + 2) 0 0 M_X2_isOwnWord 68 [some (.inl v)] [] h _
                refine p_const 69 rfl rfl ?_
                refine p_zret rfl rfl (by decide) ?_
                -- leaf 7: answer [.inl 1] h=h 
                first | exact K1 (by omega) | (refine K2 ?_; have := fw.2; omega) | (refine K1 ?_; have := fw.1; omega)
              · have c1_6 := c1
                show Wp (d + 2) 0 0 M_X2_isOwnWord 70 [some (.inl v)] [] h _
                refine p_iload 71 rfl rfl rfl ?_
                refine p_calls (le := [some (.inl v)]) (as := [.inl v]) (rest := []) 74 0 0 0 0 rfl rfl (Nat.le_of_ble_eq_true rfl) rfl (Nat.le_of_ble_eq_true rfl) rfl rfl (Nat.le_of_ble_eq_true rfl) rfl (Nat.le_of_ble_eq_true rfl) rfl (Nat.le_refl _) (Nat.le_refl _) rfl rfl ?_
                refine x_figureNamed S v ?_
                show Wp (d + 2) 0 0 M_X2_isOwnWord 74 [some (.inl v)] [.inl (fgW v)] h _
                refine p_const 75 rfl rfl ?_
                refine p_ic_eq 78 82 rfl rfl rfl (fun c3 => ?_) (fun c3 => ?_)
                · skip
                  refine p_const 83 rfl rfl ?_
                  refine p_zret rfl rfl (by decide) ?_
                  -- leaf 8: answer [.inl 0] h=h 
                  first | exact K1 (by omega) | (refine K2 ?_; have := fw.2; omega) | (refine K1 ?_; have := fw.1; omega)
                · skip
                  refine p_const 79 rfl rfl ?_
                  refine p_goto 83 rfl rfl ?_
                  refine p_zret rfl rfl (by decide) ?_
                  -- leaf 9: answer [.inl 1] h=h 
                  first | exact K1 (by omega) | (refine K2 ?_; have := fw.2; omega) | (refine K1 ?_; have := fw.1; omega)
def tnA (a i : Int) : Bool := decide ((a = 11 ∧ 1 ≤ i ∧ i ≤ 7) ∨ a = 12)
theorem tnA_b : ∀ a i, (128 : Int) ≤ a → tnA a i = false := fun a i h => decide_eq_false (by omega)
theorem avA_tnA : ∀ a i, tnA a i = false → avA a i = false := fun a i => dw (by omega)
theorem TkH.of {h h' : PH} {L : List Tok} (X : TkH h L) (e : ∀ a i, a = 16 ∨ a = 17 → gv h' a i = gv h a i) : TkH h' L := ⟨(e 16 2 (Or.inl rfl)).trans X.1, fun j t hj => (e 17 j (Or.inr rfl)).trans (X.2 j t hj)⟩
theorem TkH.tn {h h' : PH} {L : List Tok} (X : TkH h L) (k : Keep tnA h h') : TkH h' L := X.of (fun a i z => k.1 a i (decide_eq_false (by omega)))
theorem CurX.of {h h' : PH} {L : List Tok} {i : Nat} (C : CurX h L i) (e : ∀ j, gv h' 11 j = gv h 11 j) : CurX h' L i := by
  obtain ⟨c0, c1, c2, c3, c4, c5, c6, c7⟩ := C
  exact ⟨c0, (e 1).trans c1, (e 2).trans c2, (e 3).trans c3, (e 4).trans c4, (e 5).trans c5, (e 6).trans c6, (e 7).trans c7⟩
theorem x_takeName {d : Nat} {h : PH} {q : PQ} (S : Shape h) {L : List Tok} {i : Nat} {G : List Sns} (B : TL L) (X : TkH h L) (C : CurX h L i) (Y : SnX h G) (g40 : G.length < 40)
    (K : ∀ x h', (Keep tnA h h' ∧ (∀ k : Nat, k < G.length → gv h' 12 k = gv h 12 k) ∧ ((x = 1 ∧ NmOk L G i ∧ CurX h' L (i + 1) ∧ gv h' 12 G.length = (tk L i).2.2.2) ∨ (x = 0 ∧ ∃ k p, NmBad L G i k p ∧ gv h' 11 6 = k ∧ gv h' 11 7 = p))) → Shape h' → q (some (.inl x)) h') :
    Wp (d + 3) 0 0 M_X2_takeName 0 [some (.inr (.inr 11)), none, none] [] h q := by
  have k0 := Keep.rf tnA h
  have l7 := B.1
  obtain ⟨tb1, tb2, tb3, tb4⟩ := B.2.1 i C.1
  have y1 := Y.1
  have bad : ∀ (k p : Int) (h' : PH), NmBad L G i k p → Keep tnA h h' → (∀ j, gv h' 12 j = gv h 12 j) → gv h' 11 6 = k → gv h' 11 7 = p → Shape h' → q (some (.inl 0)) h' := fun k p h' n kp e a b S' => K 0 h' ⟨kp, fun j _ => e j, Or.inr ⟨rfl, k, p, n, a, b⟩⟩ S'
  have J59 : (tk L i).1 = 1 → ¬ own (tk L i).2.2.2 → (tk L i).2.2.1 - (tk L i).2.1 ≤ 6 → ∀ (c m : Nat), m + c = G.length → Wp (d + 3) 0 0 M_X2_takeName 59 [some (.inr (.inr 11)), some (.inl (cN (nmG G) (tk L i).2.2.2 m)), some (.inl m)] [] h q := by
    intro a1 a2 a3 c
    induction c with
    | zero =>
      intro m hm
      have cb := cN_in (nmG G) (tk L i).2.2.2 m
      have kn : (tk L i).1 ≠ 0 := by rw [a1]; decide
      have em : m = G.length := by omega
      subst em
      refine p_iload 60 rfl rfl rfl ?_
      refine p_aload 61 rfl rfl rfl ?_
      refine p_getfi (j := 8) (z := (G.length : Int)) 64 rfl rfl rfl (tg_11 S) rfl y1 ?_
      refine p_ic_ge_t 95 rfl rfl (by omega) ?_
      refine p_iload 96 rfl rfl rfl ?_
      refine p_const 98 rfl rfl ?_
      refine p_ic_lt 101 111 rfl rfl rfl (fun c1 => ?_) (fun c1 => ?_)
      · skip
        refine p_aload 112 rfl rfl rfl ?_
        refine p_getfi (j := 8) (z := (G.length : Int)) 115 rfl rfl rfl (tg_11 S) rfl y1 ?_
        refine p_const 117 rfl rfl ?_
        refine p_ic_ge_f 120 rfl rfl (by omega) ?_
        refine p_aload 121 rfl rfl rfl ?_
        refine p_getfr (j := 9) (z := 12) 124 rfl rfl rfl (tg_11 S) rfl (fi_11_9 S) ?_
        refine p_aload 125 rfl rfl rfl ?_
        refine p_getfi (j := 8) (z := (G.length : Int)) 128 rfl rfl rfl (tg_11 S) rfl y1 ?_
        refine p_aload 129 rfl rfl rfl ?_
        refine p_getfi (j := 5) (z := (tk L i).2.2.2) 132 rfl rfl rfl (tg_11 S) rfl C.2.2.2.2.2.1 ?_
        refine p_iast (w := 40) 133 rfl rfl (by decide) (tg_12 S) (ln_12 S) (by omega) (by omega) ?_
        refine p_nmh (fun y2 e2 => ?_)
        have S2 : Shape y2 := by rw [e2]; exact S.svA fa_12 _ _
        have kp2 : Keep tnA h y2 := by rw [e2]; exact k0.sv rfl _
        refine p_aload 134 rfl rfl rfl ?_
        have CA : CurX y2 L i := C.of (fun j => by rw [e2, sv_ne (by decide)])
        refine p_callv (le := [some (.inr (.inr 11)), none, none]) (as := [.inr (.inr 11)]) (rest := []) 137 0 0 0 0 rfl rfl (Nat.le_of_ble_eq_true rfl) rfl (Nat.le_of_ble_eq_true rfl) rfl rfl (Nat.le_of_ble_eq_true rfl) rfl (Nat.le_of_ble_eq_true rfl) rfl (Nat.le_refl _) (Nat.le_refl _) rfl rfl (tg_11 S2) ?_
        refine advX S2 B (X.tn kp2) CA kn (fun y3 p3 S3 => ?_)
        have kp3 : Keep tnA h y3 := kp2.trans (p3.1.wide avA_tnA)
        show Wp (d + 3) 0 0 M_X2_takeName 137 [some (.inr (.inr 11)), some (.inl (cN (nmG G) (tk L i).2.2.2 G.length)), some (.inl (G.length : Int))] [] y3 _
        refine p_const 138 rfl rfl ?_
        refine p_zret rfl rfl (by decide) ?_
        -- leaf 1: answer [.inl 1] h=y3  kp3
        refine K 1 _ ⟨kp3, fun k hk => ?_, Or.inl ⟨rfl, ⟨a1, a2, a3, by omega⟩, p3.2, ?_⟩⟩ S3
        · rw [p3.1.1 12 k rfl, e2, sv_nf (by omega)]
        · rw [p3.1.1 12 _ rfl, e2, sv_eq]
      · skip
        refine p_aload 102 rfl rfl rfl ?_
        refine p_const 103 rfl rfl ?_
        refine p_aload 104 rfl rfl rfl ?_
        refine p_getfi (j := 3) (z := (tk L i).2.1) 107 rfl rfl rfl (tg_11 S) rfl C.2.2.2.1 ?_
        refine p_callv (le := [some (.inr (.inr 11)), some (.inl 2), some (.inl ((tk L i).2.1))]) (as := [.inr (.inr 11), .inl 2, .inl ((tk L i).2.1)]) (rest := []) 110 0 0 0 0 rfl rfl (Nat.le_of_ble_eq_true rfl) rfl (Nat.le_of_ble_eq_true rfl) rfl rfl (Nat.le_of_ble_eq_true rfl) rfl (Nat.le_of_ble_eq_true rfl) rfl (Nat.le_refl _) (Nat.le_refl _) rfl rfl (tg_11 S) ?_
        refine p_aload 1 rfl rfl rfl ?_
        refine p_iload 2 rfl rfl rfl ?_
        refine p_putfi (j := 6) 5 rfl rfl rfl (fun z => absurd z (by decide)) (tg_11 S) rfl ?_
        refine p_nmh (fun y4 e4 => ?_)
        have S4 : Shape y4 := by rw [e4]; exact S.svF ff_11_6 _
        have kp4 : Keep tnA h y4 := by rw [e4]; exact k0.sv rfl _
        refine p_aload 6 rfl rfl rfl ?_
        refine p_iload 7 rfl rfl rfl ?_
        refine p_putfi (j := 7) 10 rfl rfl rfl (fun z => absurd z (by decide)) (tg_11 S4) rfl ?_
        refine p_nmh (fun y5 e5 => ?_)
        have S5 : Shape y5 := by rw [e5]; exact S4.svF ff_11_7 _
        have kp5 : Keep tnA h y5 := by rw [e5]; exact kp4.sv rfl _
        refine p_const 11 rfl rfl ?_
        refine p_zret rfl rfl (by decide) ?_
        show Wp (d + 3) 0 0 M_X2_takeName 110 [some (.inr (.inr 11)), some (.inl (cN (nmG G) (tk L i).2.2.2 G.length)), some (.inl (G.length : Int))] [.inl 0] y5 _
        refine p_zret rfl rfl (by decide) ?_
        -- leaf 2: answer [.inl 0] h=y5 e5,e4 kp5
        exact bad _ _ _ (Or.inr (Or.inr ⟨a1, a2, a3, by omega, rfl, rfl⟩)) kp5 (fun j => by rw [e5, sv_ne (by decide), e4, sv_ne (by decide)]) (by rw [e5, sv_nf (by decide), e4, sv_eq]) (by rw [e5, sv_eq]) S5
    | succ c ih =>
      intro m hm
      have cb := cN_in (nmG G) (tk L i).2.2.2 m
      have ev : gv h 12 m = nmG G m := Y.nm (by omega)
      have cs : cN (nmG G) (tk L i).2.2.2 (m + 1) = cN (nmG G) (tk L i).2.2.2 m + if nmG G m = (tk L i).2.2.2 then 1 else 0 := rfl
      refine p_iload 60 rfl rfl rfl ?_
      refine p_aload 61 rfl rfl rfl ?_
      refine p_getfi (j := 8) (z := (G.length : Int)) 64 rfl rfl rfl (tg_11 S) rfl y1 ?_
      refine p_ic_ge_f 67 rfl rfl (by omega) ?_
      refine p_iload 68 rfl rfl rfl ?_
      refine p_const 70 rfl rfl ?_
      refine p_ic_ge_f 73 rfl rfl (by omega) ?_
      refine p_aload 74 rfl rfl rfl ?_
      refine p_getfr (j := 9) (z := 12) 77 rfl rfl rfl (tg_11 S) rfl (fi_11_9 S) ?_
      refine p_iload 78 rfl rfl rfl ?_
      refine p_iald (w := 40) (z := gv h 12 (m : Int)) 79 rfl rfl (tg_12 S) (ln_12 S) (by omega) (by omega) rfl ?_
      refine p_aload 80 rfl rfl rfl ?_
      refine p_getfi (j := 5) (z := (tk L i).2.2.2) 83 rfl rfl rfl (tg_11 S) rfl C.2.2.2.2.2.1 ?_
      refine p_ic_ne 86 89 rfl rfl rfl (fun c1 => ?_) (fun c1 => ?_)
      · skip
        refine p_iinc (y := (m : Int) + 1) (ls' := [some (.inr (.inr 11)), some (.inl (cN (nmG G) (tk L i).2.2.2 m)), some (.inl ((m : Int) + 1))]) 92 rfl rfl rfl (w32_id ⟨(by omega), (by omega)⟩) rfl ?_
        refine p_goto 59 rfl rfl ?_
        -- leaf 1: loop 59 [some (.inr (.inr 11)), some (.inl (cN (nmG G) (tk L i).2.2.2 m)), some (.inl ((m : Int) + 1))] st=[] h=h 
        rw [show cN (nmG G) (tk L i).2.2.2 m = cN (nmG G) (tk L i).2.2.2 (m + 1) by rw [cs, if_neg (by omega)]; omega]
        exact ih (m + 1) (by omega)
      · skip
        refine p_iinc (y := (cN (nmG G) (tk L i).2.2.2 m) + 1) (ls' := [some (.inr (.inr 11)), some (.inl ((cN (nmG G) (tk L i).2.2.2 m) + 1)), some (.inl (m : Int))]) 89 rfl rfl rfl (w32_id ⟨(by omega), (by omega)⟩) rfl ?_
        refine p_iinc (y := (m : Int) + 1) (ls' := [some (.inr (.inr 11)), some (.inl ((cN (nmG G) (tk L i).2.2.2 m) + 1)), some (.inl ((m : Int) + 1))]) 92 rfl rfl rfl (w32_id ⟨(by omega), (by omega)⟩) rfl ?_
        refine p_goto 59 rfl rfl ?_
        -- leaf 2: loop 59 [some (.inr (.inr 11)), some (.inl ((cN (nmG G) (tk L i).2.2.2 m) + 1)), some (.inl ((m : Int) + 1))] st=[] h=h 
        rw [show cN (nmG G) (tk L i).2.2.2 m + 1 = cN (nmG G) (tk L i).2.2.2 (m + 1) by rw [cs, if_pos (by omega)]]
        exact ih (m + 1) (by omega)
  refine p_aload 1 rfl rfl rfl ?_
  refine p_getfi (j := 2) (z := (tk L i).1) 4 rfl rfl rfl (tg_11 S) rfl C.2.2.1 ?_
  refine p_const 5 rfl rfl ?_
  refine p_ic_ne 8 18 rfl rfl rfl (fun c1 => ?_) (fun c1 => ?_)
  · skip
    refine p_aload 19 rfl rfl rfl ?_
    refine p_const 20 rfl rfl ?_
    refine p_aload 21 rfl rfl rfl ?_
    refine p_getfi (j := 3) (z := (tk L i).2.1) 24 rfl rfl rfl (tg_11 S) rfl C.2.2.2.1 ?_
    refine p_callv (le := [some (.inr (.inr 11)), some (.inl 1), some (.inl ((tk L i).2.1))]) (as := [.inr (.inr 11), .inl 1, .inl ((tk L i).2.1)]) (rest := []) 27 0 0 0 0 rfl rfl (Nat.le_of_ble_eq_true rfl) rfl (Nat.le_of_ble_eq_true rfl) rfl rfl (Nat.le_of_ble_eq_true rfl) rfl (Nat.le_of_ble_eq_true rfl) rfl (Nat.le_refl _) (Nat.le_refl _) rfl rfl (tg_11 S) ?_
    refine p_aload 1 rfl rfl rfl ?_
    refine p_iload 2 rfl rfl rfl ?_
    refine p_putfi (j := 6) 5 rfl rfl rfl (fun z => absurd z (by decide)) (tg_11 S) rfl ?_
    refine p_nmh (fun y2 e2 => ?_)
    have S2 : Shape y2 := by rw [e2]; exact S.svF ff_11_6 _
    have kp2 : Keep tnA h y2 := by rw [e2]; exact k0.sv rfl _
    refine p_aload 6 rfl rfl rfl ?_
    refine p_iload 7 rfl rfl rfl ?_
    refine p_putfi (j := 7) 10 rfl rfl rfl (fun z => absurd z (by decide)) (tg_11 S2) rfl ?_
    refine p_nmh (fun y3 e3 => ?_)
    have S3 : Shape y3 := by rw [e3]; exact S2.svF ff_11_7 _
    have kp3 : Keep tnA h y3 := by rw [e3]; exact kp2.sv rfl _
    refine p_const 11 rfl rfl ?_
    refine p_zret rfl rfl (by decide) ?_
    show Wp (d + 3) 0 0 M_X2_takeName 27 [some (.inr (.inr 11)), none, none] [.inl 0] y3 _
    refine p_zret rfl rfl (by decide) ?_
    -- leaf 1: answer [.inl 0] h=y3 e3,e2 kp3
    exact bad _ _ _ (Or.inl ⟨fun z => c1 z.1, rfl, rfl⟩) kp3 (fun j => by rw [e3, sv_ne (by decide), e2, sv_ne (by decide)]) (by rw [e3, sv_nf (by decide), e2, sv_eq]) (by rw [e3, sv_eq]) S3
  · skip
    refine p_aload 9 rfl rfl rfl ?_
    refine p_getfi (j := 5) (z := (tk L i).2.2.2) 12 rfl rfl rfl (tg_11 S) rfl C.2.2.2.2.2.1 ?_
    refine p_calls (le := [some (.inl ((tk L i).2.2.2))]) (as := [.inl ((tk L i).2.2.2)]) (rest := []) 15 0 0 0 0 rfl rfl (Nat.le_of_ble_eq_true rfl) rfl (Nat.le_of_ble_eq_true rfl) rfl rfl (Nat.le_of_ble_eq_true rfl) rfl (Nat.le_of_ble_eq_true rfl) rfl (Nat.le_refl _) (Nat.le_refl _) rfl rfl ?_
    refine x_isOwn S ((tk L i).2.2.2) (fun c4 => ?_) (fun c4 => ?_)
    · show Wp (d + 3) 0 0 M_X2_takeName 15 [some (.inr (.inr 11)), none, none] [.inl 1] h _
      refine p_if_eq_f 18 rfl rfl (by decide) ?_
      refine p_aload 19 rfl rfl rfl ?_
      refine p_const 20 rfl rfl ?_
      refine p_aload 21 rfl rfl rfl ?_
      refine p_getfi (j := 3) (z := (tk L i).2.1) 24 rfl rfl rfl (tg_11 S) rfl C.2.2.2.1 ?_
      refine p_callv (le := [some (.inr (.inr 11)), some (.inl 1), some (.inl ((tk L i).2.1))]) (as := [.inr (.inr 11), .inl 1, .inl ((tk L i).2.1)]) (rest := []) 27 0 0 0 0 rfl rfl (Nat.le_of_ble_eq_true rfl) rfl (Nat.le_of_ble_eq_true rfl) rfl rfl (Nat.le_of_ble_eq_true rfl) rfl (Nat.le_of_ble_eq_true rfl) rfl (Nat.le_refl _) (Nat.le_refl _) rfl rfl (tg_11 S) ?_
      refine p_aload 1 rfl rfl rfl ?_
      refine p_iload 2 rfl rfl rfl ?_
      refine p_putfi (j := 6) 5 rfl rfl rfl (fun z => absurd z (by decide)) (tg_11 S) rfl ?_
      refine p_nmh (fun y5 e5 => ?_)
      have S5 : Shape y5 := by rw [e5]; exact S.svF ff_11_6 _
      have kp5 : Keep tnA h y5 := by rw [e5]; exact k0.sv rfl _
      refine p_aload 6 rfl rfl rfl ?_
      refine p_iload 7 rfl rfl rfl ?_
      refine p_putfi (j := 7) 10 rfl rfl rfl (fun z => absurd z (by decide)) (tg_11 S5) rfl ?_
      refine p_nmh (fun y6 e6 => ?_)
      have S6 : Shape y6 := by rw [e6]; exact S5.svF ff_11_7 _
      have kp6 : Keep tnA h y6 := by rw [e6]; exact kp5.sv rfl _
      refine p_const 11 rfl rfl ?_
      refine p_zret rfl rfl (by decide) ?_
      show Wp (d + 3) 0 0 M_X2_takeName 27 [some (.inr (.inr 11)), none, none] [.inl 0] y6 _
      refine p_zret rfl rfl (by decide) ?_
      -- leaf 2: answer [.inl 0] h=y6 e6,e5 kp6
      exact bad _ _ _ (Or.inl ⟨fun z => z.2 c4, rfl, rfl⟩) kp6 (fun j => by rw [e6, sv_ne (by decide), e5, sv_ne (by decide)]) (by rw [e6, sv_nf (by decide), e5, sv_eq]) (by rw [e6, sv_eq]) S6
    · show Wp (d + 3) 0 0 M_X2_takeName 15 [some (.inr (.inr 11)), none, none] [.inl 0] h _
      refine p_if_eq_t 28 rfl rfl (by decide) ?_
      refine p_aload 29 rfl rfl rfl ?_
      refine p_getfi (j := 4) (z := (tk L i).2.2.1) 32 rfl rfl rfl (tg_11 S) rfl C.2.2.2.2.1 ?_
      refine p_aload 33 rfl rfl rfl ?_
      refine p_getfi (j := 3) (z := (tk L i).2.1) 36 rfl rfl rfl (tg_11 S) rfl C.2.2.2.1 ?_
      refine p_isub (z := ((tk L i).2.2.1) - ((tk L i).2.1)) 37 rfl rfl (w32_id ⟨(by omega), (by omega)⟩) ?_
      refine p_const 39 rfl rfl ?_
      refine p_ic_le 42 55 rfl rfl rfl (fun c7 => ?_) (fun c7 => ?_)
      · skip
        refine p_const 56 rfl rfl ?_
        refine p_istore (ls' := [some (.inr (.inr 11)), some (.inl 0), none]) 57 rfl rfl (Nat.le_of_ble_eq_true rfl) rfl ?_
        refine p_const 58 rfl rfl ?_
        refine p_istore (ls' := [some (.inr (.inr 11)), some (.inl 0), some (.inl 0)]) 59 rfl rfl (Nat.le_of_ble_eq_true rfl) rfl ?_
        -- leaf 3: loop 59 [some (.inr (.inr 11)), some (.inl 0), some (.inl 0)] st=[] h=h  k0
        exact J59 (by omega) c4 c7 G.length 0 (by omega)
      · skip
        refine p_aload 43 rfl rfl rfl ?_
        refine p_const 44 rfl rfl ?_
        refine p_aload 45 rfl rfl rfl ?_
        refine p_getfi (j := 3) (z := (tk L i).2.1) 48 rfl rfl rfl (tg_11 S) rfl C.2.2.2.1 ?_
        refine p_const 50 rfl rfl ?_
        refine p_iadd (z := ((tk L i).2.1) + 6) 51 rfl rfl (w32_id ⟨(by omega), (by omega)⟩) ?_
        refine p_callv (le := [some (.inr (.inr 11)), some (.inl 1), some (.inl (((tk L i).2.1) + 6))]) (as := [.inr (.inr 11), .inl 1, .inl (((tk L i).2.1) + 6)]) (rest := []) 54 0 0 0 0 rfl rfl (Nat.le_of_ble_eq_true rfl) rfl (Nat.le_of_ble_eq_true rfl) rfl rfl (Nat.le_of_ble_eq_true rfl) rfl (Nat.le_of_ble_eq_true rfl) rfl (Nat.le_refl _) (Nat.le_refl _) rfl rfl (tg_11 S) ?_
        refine p_aload 1 rfl rfl rfl ?_
        refine p_iload 2 rfl rfl rfl ?_
        refine p_putfi (j := 6) 5 rfl rfl rfl (fun z => absurd z (by decide)) (tg_11 S) rfl ?_
        refine p_nmh (fun y8 e8 => ?_)
        have S8 : Shape y8 := by rw [e8]; exact S.svF ff_11_6 _
        have kp8 : Keep tnA h y8 := by rw [e8]; exact k0.sv rfl _
        refine p_aload 6 rfl rfl rfl ?_
        refine p_iload 7 rfl rfl rfl ?_
        refine p_putfi (j := 7) 10 rfl rfl rfl (fun z => absurd z (by decide)) (tg_11 S8) rfl ?_
        refine p_nmh (fun y9 e9 => ?_)
        have S9 : Shape y9 := by rw [e9]; exact S8.svF ff_11_7 _
        have kp9 : Keep tnA h y9 := by rw [e9]; exact kp8.sv rfl _
        refine p_const 11 rfl rfl ?_
        refine p_zret rfl rfl (by decide) ?_
        show Wp (d + 3) 0 0 M_X2_takeName 54 [some (.inr (.inr 11)), none, none] [.inl 0] y9 _
        refine p_zret rfl rfl (by decide) ?_
        -- leaf 4: answer [.inl 0] h=y9 e9,e8 kp9
        exact bad _ _ _ (Or.inr (Or.inl ⟨by omega, c4, by omega, rfl, rfl⟩)) kp9 (fun j => by rw [e9, sv_ne (by decide), e8, sv_ne (by decide)]) (by rw [e9, sv_nf (by decide), e8, sv_eq]) (by rw [e9, sv_eq]) S9
def tcA (a i : Int) : Bool := decide ((a = 11 ∧ 1 ≤ i ∧ i ≤ 7) ∨ a = 13)
theorem tcA_b : ∀ a i, (128 : Int) ≤ a → tcA a i = false := fun a i h => decide_eq_false (by omega)
theorem avA_tcA : ∀ a i, tcA a i = false → avA a i = false := fun a i => dw (by omega)
theorem TkH.tc {h h' : PH} {L : List Tok} (X : TkH h L) (k : Keep tcA h h') : TkH h' L := X.of (fun a i z => k.1 a i (decide_eq_false (by omega)))
theorem x_takeCode {d : Nat} {h : PH} {q : PQ} (S : Shape h) {L : List Tok} {i : Nat} {g : Nat} (B : TL L) (X : TkH h L) (C : CurX h L i) (y1 : gv h 11 8 = g) (g40 : g < 40)
    (K : ∀ x h', (Keep tcA h h' ∧ (∀ k : Nat, k < g → gv h' 13 k = gv h 13 k) ∧ ((x = 1 ∧ CdOk L i ∧ CurX h' L (i + 1) ∧ gv h' 13 g = (tk L i).2.2.2) ∨ (x = 0 ∧ ∃ k p, CdBad L i k p ∧ gv h' 11 6 = k ∧ gv h' 11 7 = p))) → Shape h' → q (some (.inl x)) h') :
    Wp (d + 2) 0 0 M_X2_takeCode 0 [some (.inr (.inr 11)), none] [] h q := by
  have k0 := Keep.rf tcA h
  have l7 := B.1
  obtain ⟨tb1, tb2, tb3, tb4⟩ := B.2.1 i C.1
  have bad : ∀ (k p : Int) (h' : PH), CdBad L i k p → Keep tcA h h' → (∀ j, gv h' 13 j = gv h 13 j) → gv h' 11 6 = k → gv h' 11 7 = p → Shape h' → q (some (.inl 0)) h' := fun k p h' n kp e a b S' => K 0 h' ⟨kp, fun j _ => e j, Or.inr ⟨rfl, k, p, n, a, b⟩⟩ S'
  refine p_aload 1 rfl rfl rfl ?_
  refine p_getfi (j := 4) (z := (tk L i).2.2.1) 4 rfl rfl rfl (tg_11 S) rfl C.2.2.2.2.1 ?_
  refine p_aload 5 rfl rfl rfl ?_
  refine p_getfi (j := 3) (z := (tk L i).2.1) 8 rfl rfl rfl (tg_11 S) rfl C.2.2.2.1 ?_
  refine p_isub (z := ((tk L i).2.2.1) - ((tk L i).2.1)) 9 rfl rfl (w32_id ⟨(by omega), (by omega)⟩) ?_
  refine p_const 10 rfl rfl ?_
  refine p_isub (z := (((tk L i).2.2.1) - ((tk L i).2.1)) - 1) 11 rfl rfl (w32_id ⟨(by omega), (by omega)⟩) ?_
  refine p_istore (ls' := [some (.inr (.inr 11)), some (.inl ((((tk L i).2.2.1) - ((tk L i).2.1)) - 1))]) 12 rfl rfl (Nat.le_of_ble_eq_true rfl) rfl ?_
  refine p_aload 13 rfl rfl rfl ?_
  refine p_getfi (j := 2) (z := (tk L i).1) 16 rfl rfl rfl (tg_11 S) rfl C.2.2.1 ?_
  refine p_const 17 rfl rfl ?_
  refine p_ic_eq 20 30 rfl rfl rfl (fun c1 => ?_) (fun c1 => ?_)
  · skip
    refine p_iload 31 rfl rfl rfl ?_
    refine p_const 32 rfl rfl ?_
    refine p_ic_ge 35 45 rfl rfl rfl (fun c2 => ?_) (fun c2 => ?_)
    · skip
      refine p_iload 46 rfl rfl rfl ?_
      refine p_const 47 rfl rfl ?_
      refine p_ic_le 50 64 rfl rfl rfl (fun c3 => ?_) (fun c3 => ?_)
      · skip
        refine p_aload 65 rfl rfl rfl ?_
        refine p_getfi (j := 8) (z := (g : Int)) 68 rfl rfl rfl (tg_11 S) rfl y1 ?_
        refine p_const 70 rfl rfl ?_
        refine p_ic_ge_f 73 rfl rfl (by omega) ?_
        refine p_aload 74 rfl rfl rfl ?_
        refine p_getfr (j := 10) (z := 13) 77 rfl rfl rfl (tg_11 S) rfl (fi_11_10 S) ?_
        refine p_aload 78 rfl rfl rfl ?_
        refine p_getfi (j := 8) (z := (g : Int)) 81 rfl rfl rfl (tg_11 S) rfl y1 ?_
        refine p_aload 82 rfl rfl rfl ?_
        refine p_getfi (j := 5) (z := (tk L i).2.2.2) 85 rfl rfl rfl (tg_11 S) rfl C.2.2.2.2.2.1 ?_
        refine p_iast (w := 40) 86 rfl rfl (by decide) (tg_13 S) (ln_13 S) (by omega) (by omega) ?_
        refine p_nmh (fun y4 e4 => ?_)
        have S4 : Shape y4 := by rw [e4]; exact S.svA fa_13 _ _
        have kp4 : Keep tcA h y4 := by rw [e4]; exact k0.sv rfl _
        refine p_aload 87 rfl rfl rfl ?_
        have kn : (tk L i).1 ≠ 0 := by omega
        have CA : CurX y4 L i := C.of (fun j => by rw [e4, sv_ne (by decide)])
        refine p_callv (le := [some (.inr (.inr 11)), none, none]) (as := [.inr (.inr 11)]) (rest := []) 90 0 0 0 0 rfl rfl (Nat.le_of_ble_eq_true rfl) rfl (Nat.le_of_ble_eq_true rfl) rfl rfl (Nat.le_of_ble_eq_true rfl) rfl (Nat.le_of_ble_eq_true rfl) rfl (Nat.le_refl _) (Nat.le_refl _) rfl rfl (tg_11 S4) ?_
        refine advX S4 B (X.tc kp4) CA kn (fun y5 p5 S5 => ?_)
        have kp5 : Keep tcA h y5 := kp4.trans (p5.1.wide avA_tcA)
        show Wp (d + 2) 0 0 M_X2_takeCode 90 [some (.inr (.inr 11)), some (.inl ((((tk L i).2.2.1) - ((tk L i).2.1)) - 1))] [] y5 _
        refine p_const 91 rfl rfl ?_
        refine p_zret rfl rfl (by decide) ?_
        -- leaf 1: answer [.inl 1] h=y5  kp5
        refine K 1 _ ⟨kp5, fun k hk => ?_, Or.inl ⟨rfl, ⟨c1, by omega, by omega⟩, p5.2, ?_⟩⟩ S5
        · rw [p5.1.1 13 k rfl, e4, sv_nf (by omega)]
        · rw [p5.1.1 13 _ rfl, e4, sv_eq]
      · skip
        refine p_aload 51 rfl rfl rfl ?_
        refine p_const 52 rfl rfl ?_
        refine p_aload 53 rfl rfl rfl ?_
        refine p_getfi (j := 3) (z := (tk L i).2.1) 56 rfl rfl rfl (tg_11 S) rfl C.2.2.2.1 ?_
        refine p_const 57 rfl rfl ?_
        refine p_iadd (z := ((tk L i).2.1) + 1) 58 rfl rfl (w32_id ⟨(by omega), (by omega)⟩) ?_
        refine p_const 59 rfl rfl ?_
        refine p_iadd (z := (((tk L i).2.1) + 1) + 4) 60 rfl rfl (w32_id ⟨(by omega), (by omega)⟩) ?_
        refine p_callv (le := [some (.inr (.inr 11)), some (.inl 1), some (.inl ((((tk L i).2.1) + 1) + 4))]) (as := [.inr (.inr 11), .inl 1, .inl ((((tk L i).2.1) + 1) + 4)]) (rest := []) 63 0 0 0 0 rfl rfl (Nat.le_of_ble_eq_true rfl) rfl (Nat.le_of_ble_eq_true rfl) rfl rfl (Nat.le_of_ble_eq_true rfl) rfl (Nat.le_of_ble_eq_true rfl) rfl (Nat.le_refl _) (Nat.le_refl _) rfl rfl (tg_11 S) ?_
        refine p_aload 1 rfl rfl rfl ?_
        refine p_iload 2 rfl rfl rfl ?_
        refine p_putfi (j := 6) 5 rfl rfl rfl (fun z => absurd z (by decide)) (tg_11 S) rfl ?_
        refine p_nmh (fun y6 e6 => ?_)
        have S6 : Shape y6 := by rw [e6]; exact S.svF ff_11_6 _
        have kp6 : Keep tcA h y6 := by rw [e6]; exact k0.sv rfl _
        refine p_aload 6 rfl rfl rfl ?_
        refine p_iload 7 rfl rfl rfl ?_
        refine p_putfi (j := 7) 10 rfl rfl rfl (fun z => absurd z (by decide)) (tg_11 S6) rfl ?_
        refine p_nmh (fun y7 e7 => ?_)
        have S7 : Shape y7 := by rw [e7]; exact S6.svF ff_11_7 _
        have kp7 : Keep tcA h y7 := by rw [e7]; exact kp6.sv rfl _
        refine p_const 11 rfl rfl ?_
        refine p_zret rfl rfl (by decide) ?_
        show Wp (d + 2) 0 0 M_X2_takeCode 63 [some (.inr (.inr 11)), some (.inl ((((tk L i).2.2.1) - ((tk L i).2.1)) - 1))] [.inl 0] y7 _
        refine p_zret rfl rfl (by decide) ?_
        -- leaf 2: answer [.inl 0] h=y7 e7,e6 kp7
        exact bad _ _ _ (Or.inr (Or.inr ⟨c1, by omega, rfl, rfl⟩)) kp7 (fun j => by rw [e7, sv_ne (by decide), e6, sv_ne (by decide)]) (by rw [e7, sv_nf (by decide), e6, sv_eq]) (by rw [e7, sv_eq]) S7
    · skip
      refine p_aload 36 rfl rfl rfl ?_
      refine p_const 37 rfl rfl ?_
      refine p_aload 38 rfl rfl rfl ?_
      refine p_getfi (j := 4) (z := (tk L i).2.2.1) 41 rfl rfl rfl (tg_11 S) rfl C.2.2.2.2.1 ?_
      refine p_callv (le := [some (.inr (.inr 11)), some (.inl 1), some (.inl ((tk L i).2.2.1))]) (as := [.inr (.inr 11), .inl 1, .inl ((tk L i).2.2.1)]) (rest := []) 44 0 0 0 0 rfl rfl (Nat.le_of_ble_eq_true rfl) rfl (Nat.le_of_ble_eq_true rfl) rfl rfl (Nat.le_of_ble_eq_true rfl) rfl (Nat.le_of_ble_eq_true rfl) rfl (Nat.le_refl _) (Nat.le_refl _) rfl rfl (tg_11 S) ?_
      refine p_aload 1 rfl rfl rfl ?_
      refine p_iload 2 rfl rfl rfl ?_
      refine p_putfi (j := 6) 5 rfl rfl rfl (fun z => absurd z (by decide)) (tg_11 S) rfl ?_
      refine p_nmh (fun y8 e8 => ?_)
      have S8 : Shape y8 := by rw [e8]; exact S.svF ff_11_6 _
      have kp8 : Keep tcA h y8 := by rw [e8]; exact k0.sv rfl _
      refine p_aload 6 rfl rfl rfl ?_
      refine p_iload 7 rfl rfl rfl ?_
      refine p_putfi (j := 7) 10 rfl rfl rfl (fun z => absurd z (by decide)) (tg_11 S8) rfl ?_
      refine p_nmh (fun y9 e9 => ?_)
      have S9 : Shape y9 := by rw [e9]; exact S8.svF ff_11_7 _
      have kp9 : Keep tcA h y9 := by rw [e9]; exact kp8.sv rfl _
      refine p_const 11 rfl rfl ?_
      refine p_zret rfl rfl (by decide) ?_
      show Wp (d + 2) 0 0 M_X2_takeCode 44 [some (.inr (.inr 11)), some (.inl ((((tk L i).2.2.1) - ((tk L i).2.1)) - 1))] [.inl 0] y9 _
      refine p_zret rfl rfl (by decide) ?_
      -- leaf 3: answer [.inl 0] h=y9 e9,e8 kp9
      exact bad _ _ _ (Or.inr (Or.inl ⟨c1, by omega, rfl, rfl⟩)) kp9 (fun j => by rw [e9, sv_ne (by decide), e8, sv_ne (by decide)]) (by rw [e9, sv_nf (by decide), e8, sv_eq]) (by rw [e9, sv_eq]) S9
  · skip
    refine p_aload 21 rfl rfl rfl ?_
    refine p_const 22 rfl rfl ?_
    refine p_aload 23 rfl rfl rfl ?_
    refine p_getfi (j := 3) (z := (tk L i).2.1) 26 rfl rfl rfl (tg_11 S) rfl C.2.2.2.1 ?_
    refine p_callv (le := [some (.inr (.inr 11)), some (.inl 1), some (.inl ((tk L i).2.1))]) (as := [.inr (.inr 11), .inl 1, .inl ((tk L i).2.1)]) (rest := []) 29 0 0 0 0 rfl rfl (Nat.le_of_ble_eq_true rfl) rfl (Nat.le_of_ble_eq_true rfl) rfl rfl (Nat.le_of_ble_eq_true rfl) rfl (Nat.le_of_ble_eq_true rfl) rfl (Nat.le_refl _) (Nat.le_refl _) rfl rfl (tg_11 S) ?_
    refine p_aload 1 rfl rfl rfl ?_
    refine p_iload 2 rfl rfl rfl ?_
    refine p_putfi (j := 6) 5 rfl rfl rfl (fun z => absurd z (by decide)) (tg_11 S) rfl ?_
    refine p_nmh (fun y10 e10 => ?_)
    have S10 : Shape y10 := by rw [e10]; exact S.svF ff_11_6 _
    have kp10 : Keep tcA h y10 := by rw [e10]; exact k0.sv rfl _
    refine p_aload 6 rfl rfl rfl ?_
    refine p_iload 7 rfl rfl rfl ?_
    refine p_putfi (j := 7) 10 rfl rfl rfl (fun z => absurd z (by decide)) (tg_11 S10) rfl ?_
    refine p_nmh (fun y11 e11 => ?_)
    have S11 : Shape y11 := by rw [e11]; exact S10.svF ff_11_7 _
    have kp11 : Keep tcA h y11 := by rw [e11]; exact kp10.sv rfl _
    refine p_const 11 rfl rfl ?_
    refine p_zret rfl rfl (by decide) ?_
    show Wp (d + 2) 0 0 M_X2_takeCode 29 [some (.inr (.inr 11)), some (.inl ((((tk L i).2.2.1) - ((tk L i).2.1)) - 1))] [.inl 0] y11 _
    refine p_zret rfl rfl (by decide) ?_
    -- leaf 4: answer [.inl 0] h=y11 e11,e10 kp11
    exact bad _ _ _ (Or.inl ⟨c1, rfl, rfl⟩) kp11 (fun j => by rw [e11, sv_ne (by decide), e10, sv_ne (by decide)]) (by rw [e11, sv_nf (by decide), e10, sv_eq]) (by rw [e11, sv_eq]) S11

