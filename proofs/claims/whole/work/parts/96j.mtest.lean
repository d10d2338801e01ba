/-! THE MODEL'S READER: a test, every derivation; the whole test -/
theorem sg_wd {L : List Tok} {i : Nat} {c w : Int} (a : isSg L i c) : ¬ isWd L i w := fun z => by have := a.1; have := z.1; omega
theorem prv_wd {L : List Tok} {i : Nat} (h : (tk L i).1 = 1) : (prv L (i + 1)).1 ≠ 3 := by
  show (tk L i).1 ≠ 3
  omega
theorem tk_lt {T : Int → Int} {n : Int} {L : List Tok} {h0 h : PH} {i o : Nat} {b : Int} {W C : List Int} (O : TxO T n) (LX : LexA T n L) (R : RdM h0 h T n L i o b W C) : i ≤ 700 := by
  have l7 := (LX.tl O).1
  have i7 := R.2.2.1.1
  omega
section MTSU
variable {d : Nat} {h0 : PH} {q : PQ} {T : Int → Int} {n : Int} {L : List Tok}
theorem sq_mid (U P : List Int) (k : Nat) : 25 ∈ U ++ n16 k ++ [25] ++ P.reverse := by
  refine List.mem_append_left _ (List.mem_append_right _ ?_)
  exact List.mem_singleton.2 rfl
theorem no25 {P : List Int} (h : ∀ x, x ∈ P → x = 14 ∨ x = 15) : ¬ 25 ∈ P := fun z => by have := h 25 z; omega
theorem mtst_clo (O : TxO T n) (LX : LexA T n L) : Clo L (MTs d h0 q T n L) := by
  have onAnd : ∀ (h : PH) (i o : Nat) (V C P D acc : List Int), isWd L i 1476 → (∀ x, x ∈ P → x = 14) → D ++ P = C ++ acc → RdM h0 h T n L i o 0 (V ++ P.reverse) D → tB V → Shape h → (∀ h', RdM h0 h' T n L (i + 1) o 0 (V ++ [14]) (C ++ acc) → Shape h' → WT d q h') → WG d q h := by
    intro h i o V C P D acc w aP e R tV S K c
    have i7 := tk_lt O LX R
    have r10 := R.2.2.2.2.2.2.2.2.1
    rw [List.length_append, List.length_reverse] at r10
    refine m_gtHead S O LX R (fun y => absurd w (sg_wd y)) (fun _ h1 R1 S1 => ?_)
    refine m_gtRest S1 O LX R1 (fun _ h2 R2 S2 => ?_) (fun z => absurd w z) (fun z => absurd w z) (fun z => absurd w z)
    exact m_gtAnd S2 (by omega) R2 aP (tV.no (by omega)) (by omega) (fun h3 R3 S3 => mt_on S3 (K h3 (by rw [← e]; exact R3) S3))
  have onOr : ∀ (h : PH) (i o : Nat) (V C P D acc : List Int), ¬ isWd L i 1476 → isWd L i 498 → (∀ x, x ∈ P → x = 14 ∨ x = 15) → D ++ P = C ++ acc → RdM h0 h T n L i o 0 (V ++ P.reverse) D → tT V → Shape h → (∀ h', RdM h0 h' T n L (i + 1) o 0 (V ++ [15]) (C ++ acc) → Shape h' → WT d q h') → WG d q h := by
    intro h i o V C P D acc nA w aP e R tV S K c
    have i7 := tk_lt O LX R
    have r10 := R.2.2.2.2.2.2.2.2.1
    rw [List.length_append, List.length_reverse] at r10
    refine m_gtHead S O LX R (fun y => absurd w (sg_wd y)) (fun _ h1 R1 S1 => ?_)
    refine m_gtRest S1 O LX R1 (fun z => absurd z nA) (fun _ _ h2 R2 S2 => ?_) (fun _ z => absurd w z) (fun _ z => absurd w z)
    exact m_gtOr S2 (by omega) R2 aP (fun x hx => tV.no (by omega)) (by omega) (fun h3 R3 S3 => mt_on S3 (K h3 (by rw [← e]; exact R3) S3))
  have onFact : ∀ (o i : Nat) (r : Rs), ¬ isWd L i 14836 → ¬ isSg L i 91 → FcT L o i r → MTs d h0 q T n L 4 [] o i r := by
    intro o i r nn ns D h U k C R p3 tU ko S F
    exact mt_head O LX S R (fun z => absurd z ns) (fun z => absurd z nn) (fun z => absurd z (by rintro (y | y); exact nn y; exact ns y)) (fun _ _ h' c R' S' => mt_fact O LX S' D R' p3 tU ko F)
  have zero : ∀ (V : List Int), V ++ n16 0 = V := fun V => List.append_nil V
  have fb : ∀ {o : Nat} {V C : List Int} {j : Nat} {c : List Int}, (∀ h', RdM h0 h' T n L j o 0 V (C ++ c) → Shape h' → WG d q h') → FF d h0 q T n L o 0 V C (okR j c) := by
    intro o V C j c K h' R S
    exact K h' (by rw [zero] at R; exact R) S
  refine ⟨?_, ?_, ?_, ?_, ?_, ?_, ?_, ?_, ?_, ?_, ?_, ?_, ?_, ?_, ?_, ?_, ?_, ?_, ?_, ?_, ?_, ?_, ?_, ?_, ?_, ?_, ?_, ?_, ?_, ?_, ?_, ?_, ?_, ?_⟩
  · exact fun o i a b => Dv.pDeep a b
  · exact fun o i k p a b c => Dv.pIn a b c
  · exact fun o i j c a b e f => Dv.pOpen a b e f
  · exact fun o i j c a b e f => Dv.pNot a b e f
  · exact fun o i a b => Dv.pNone a b
  · exact fun o i a b c e => Dv.pLong a b c e
  · exact fun o i a b c => Dv.pFig a b c
  · exact fun o i k p a => Dv.sBad a
  · exact fun o i j c r a b => Dv.sGo a b
  · exact fun o i acc a => Dv.lEnd a
  · exact fun o i acc k p a b => Dv.lBad a b
  · exact fun o i acc j c r a b e => Dv.lGo a b e
  · exact fun o i k p a => Or.inl ⟨k, p, rfl, a⟩
  · exact fun o i j c a b => Or.inr ⟨j, c, a, Or.inl ⟨b, rfl⟩⟩
  · exact fun o i j c k p a b e => Or.inr ⟨j, c, a, Or.inr ⟨b, Or.inl ⟨k, p, rfl, e⟩⟩⟩
  · exact fun o i j c j' c' a b e => Or.inr ⟨j, c, a, Or.inr ⟨b, Or.inr ⟨j', c', rfl, e⟩⟩⟩
  -- all
  · intro o i w
    exact onFact o i _ (fun z => by have := w.2; have := z.2; omega) (fun z => absurd w (sg_wd z)) (Or.inl ⟨w, rfl⟩)
  -- too deep
  · intro o i w o6 h U k C R p3 tU ko S F
    exact mt_head O LX S R (fun _ z => absurd z (by omega)) (fun _ z => absurd z (by omega)) (fun _ _ h' B' S' => F h' B' S') (fun ns nn => absurd w (by rintro (y | y); exact nn y; exact ns y))
  -- not, a fault behind it
  · intro o i k p w o6 ih h U kk C R p3 tU ko S F
    exact mt_head O LX S R (fun y => absurd w (sg_wd y)) (fun _ _ h' R' S' => ih h' U (kk + 1) C (by rw [← n16_snoc]; exact R') (prv_wd w.1) tU (by omega) S' F) (fun _ z => absurd z (by omega)) (fun _ nn => absurd w nn)
  · intro o i j c w o6 ih h U kk C R p3 tU ko S F
    refine mt_head O LX S R (fun y => absurd w (sg_wd y)) (fun _ _ h' R' S' => ih h' U (kk + 1) C (by rw [← n16_snoc]; exact R') (prv_wd w.1) tU (by omega) S' (fun h2 R2 S2 => F h2 ?_ S2)) (fun _ z => absurd z (by omega)) (fun _ nn => absurd w nn)
    have e1 : o + 1 - (kk + 1) = o - kk := by omega
    rw [e1] at R2
    have e2 : C ++ (c ++ [16]) ++ n16 kk = C ++ c ++ n16 (kk + 1) := by rw [← List.append_assoc C c [16], List.append_assoc]; rfl
    rw [e2]; exact R2
  -- a bracket, a fault in it
  · intro o i k p w o6 ih h U kk C R p3 tU ko S F
    exact mt_head O LX S R (fun _ _ h' R' S' => ih h' (U ++ n16 kk ++ [25]) C R' (prv_sg w.1) (endsIn_snoc rfl) S' F) (fun y => absurd y (sg_wd w)) (fun _ z => absurd z (by omega)) (fun ns _ => absurd w ns)
  · intro o i j c w o6 ih sj h U kk C R p3 tU ko S F
    refine mt_head O LX S R (fun _ _ h' R' S' => ih h' (U ++ n16 kk ++ [25]) C R' (prv_sg w.1) (endsIn_snoc rfl) S' ?_) (fun y => absurd y (sg_wd w)) (fun _ z => absurd z (by omega)) (fun ns _ => absurd w ns)
    intro h2 P D aP e nA nO R2 S2 c2
    refine m_gtHead S2 O LX R2 (fun _ _ h3 R3 g3 S3 => ?_) (fun z => absurd ⟨sj, sq_mid U P kk⟩ z)
    refine m_gtClose S3 O LX R3 (no25 aP) (tU.no (by omega)) ko sj g3 (fun h4 R4 S4 => ?_)
    rw [e] at R4
    exact F h4 R4 S4 c2
  · intro o i j c w o6 ih sj h U kk C R p3 tU ko S F
    refine mt_head O LX S R (fun _ _ h' R' S' => ih h' (U ++ n16 kk ++ [25]) C R' (prv_sg w.1) (endsIn_snoc rfl) S' ?_) (fun y => absurd y (sg_wd w)) (fun _ z => absurd z (by omega)) (fun ns _ => absurd w ns)
    intro h2 P D aP e nA nO R2 S2 c2
    refine m_gtHead S2 O LX R2 (fun y => absurd y sj) (fun _ h3 R3 S3 => ?_)
    exact m_gtRest S3 O LX R3 (fun z => absurd z nA) (fun _ z => absurd z nO) (fun _ _ _ h4 B4 S4 => mt_off S4 B4.t (F h4 B4.t S4)) (fun _ _ z => absurd (sq_mid U P kk) z)
  -- a comparison
  · intro o i r nl nn ns D
    exact onFact o i r nn ns (Or.inr ⟨nl, D⟩)
  -- both
  · intro o i k p ih h V C R p3 tV S F
    exact ih h V 0 C (by rw [zero]; exact R) p3 (tV.imp (fun x hx => by omega)) (Nat.zero_le _) S F
  · intro o i j c r ih1 ih2 h V C R p3 tV S F
    refine ih1 h V 0 C (by rw [zero]; exact R) p3 (tV.imp (fun x hx => by omega)) (Nat.zero_le _) S (fb (fun h1 R1 S1 => ?_))
    exact ih2 h1 V C [] (C ++ c) (fun x hx => absurd hx (List.not_mem_nil)) (List.append_nil _) (by rw [List.reverse_nil, List.append_nil]; exact R1) tV S1 F
  · intro o i acc nA h V C P D aP e R tV S F
    exact F h P D aP e nA R S
  · intro o i acc k p w ih h V C P D aP e R tV S F
    exact onAnd h i o V C P D acc w aP e R tV S (fun h' R' S' => ih h' (V ++ [14]) 0 _ (by rw [zero]; exact R') (prv_wd w.1) (endsIn_snoc (Or.inl rfl)) (Nat.zero_le _) S' F)
  · intro o i acc j c r w ih1 ih2 h V C P D aP e R tV S F
    refine onAnd h i o V C P D acc w aP e R tV S (fun h' R' S' => ih1 h' (V ++ [14]) 0 _ (by rw [zero]; exact R') (prv_wd w.1) (endsIn_snoc (Or.inl rfl)) (Nat.zero_le _) S' (fb (fun h1 R1 S1 => ?_)))
    exact ih2 h1 V C [14] (C ++ acc ++ c) (fun x hx => List.mem_singleton.1 hx) (by rw [List.append_assoc, List.append_assoc, ← List.append_assoc acc]) R1 tV S1 F
  -- a test
  · intro o i k p ih h V C R p3 tV S F
    exact ih h V C R p3 (tV.imp (fun x hx => Or.inr hx)) S F
  · intro o i j c r ih1 ih2 h V C R p3 tV S F
    exact ih1 h V C R p3 (tV.imp (fun x hx => Or.inr hx)) S (fun h1 P D aP e nA R1 S1 => ih2 h1 V C P D (fun x hx => Or.inl (aP x hx)) e nA R1 tV S1 F)
  · intro o i acc nO h V C P D aP e nA R tV S F
    exact F h P D aP e nA nO R S
  · intro o i acc k p w ih h V C P D aP e nA R tV S F
    exact onOr h i o V C P D acc nA w aP e R tV S (fun h' R' S' => ih h' (V ++ [15]) _ R' (prv_wd w.1) (endsIn_snoc (Or.inl rfl)) S' F)
  · intro o i acc j c r w ih1 ih2 h V C P D aP e nA R tV S F
    refine onOr h i o V C P D acc nA w aP e R tV S (fun h' R' S' => ih1 h' (V ++ [15]) _ R' (prv_wd w.1) (endsIn_snoc (Or.inl rfl)) S' (fun h1 P2 D2 aP2 e2 nA2 R1 S1 => ?_))
    refine ih2 h1 V C (P2 ++ [15]) D2 (fun x hx => ?_) ?_ nA2 ?_ tV S1 F
    · rcases List.mem_append.1 hx with y | y
      · exact Or.inl (aP2 x y)
      · exact Or.inr (List.mem_singleton.1 y)
    · rw [← List.append_assoc, e2, List.append_assoc, List.append_assoc, ← List.append_assoc acc]
    · rw [List.reverse_append, ← List.append_assoc]; exact R1
end MTSU
theorem m_test {d : Nat} {h0 h : PH} {q : PQ} (S : Shape h) {T : Int → Int} {n : Int} {L : List Tok} {i : Nat} {C : List Int} {r : Rs} (O : TxO T n) (LX : LexA T n L) (D : Dv L 7 [] 0 i r) (R : RdM h0 h T n L i 0 0 [] C) (p3 : (prv L i).1 ≠ 3)
    (K1 : ∀ j c, r = okR j c → ∀ h', RdM h0 h' T n L j 0 0 [] (C ++ c) → Shape h' → q none h') (K2 : ∀ k p, r = bdR k p → ∀ h', BdT h0 h' k p → Shape h' → q none h') :
    Wp (d + 8) 0 0 M_X12_test 0 [some (.inr (.inr 66)), none, none] [] h q := by
  have l7 := (LX.tl O).1
  have J110 : ∀ (Q E : List Int) (j : Nat) (c : List Int) (w : Option PV) (h1 : PH), r = okR j c → E ++ Q = C ++ c → RdM h0 h1 T n L j 0 0 Q.reverse E → Shape h1 → Wp (d + 8) 0 0 M_X12_test 110 [some (.inr (.inr 66)), some (.inl 0), w] [] h1 q := by
    intro Q
    induction Q with
    | nil =>
      intro E j c w h1 er eE R1 S1
      have b5 := R1.2.2.2.1
      have w28 := R1.2.2.2.2.2.2.1.1
      rw [List.append_nil] at eE
      refine p_aload 111 rfl rfl rfl ?_
      refine p_getfi (j := 5) (z := gv h1 66 5) 114 rfl rfl rfl (tg_66 S1) rfl rfl ?_
      refine p_if_ne_f 117 rfl rfl (by omega) ?_
      refine p_aload 118 rfl rfl rfl ?_
      refine p_getfi (j := 28) (z := 0) 121 rfl rfl rfl (tg_66 S1) rfl w28 ?_
      refine p_if_le_t 131 rfl rfl (by decide) ?_
      refine p_ret rfl rfl ?_
      -- leaf 1: answer [] h=h1 
      exact K1 j c er _ (by rw [← eE]; exact R1) S1
    | cons x Q ih =>
      intro E j c w h1 er eE R1 S1
      rw [List.reverse_cons] at R1
      have b5 := R1.2.2.2.1
      have w28 := R1.2.2.2.2.2.2.1.top.1
      have r10 := R1.2.2.2.2.2.2.2.2.1
      have j7 := tk_lt O LX R1
      rw [List.length_append] at r10
      have r10 : Q.reverse.length + 1 + E.length + 4 ≤ j := r10
      refine p_aload 111 rfl rfl rfl ?_
      refine p_getfi (j := 5) (z := gv h1 66 5) 114 rfl rfl rfl (tg_66 S1) rfl rfl ?_
      refine p_if_ne_f 117 rfl rfl (by omega) ?_
      refine p_aload 118 rfl rfl rfl ?_
      refine p_getfi (j := 28) (z := (Q.reverse.length : Int) + 1) 121 rfl rfl rfl (tg_66 S1) rfl w28 ?_
      refine p_if_le_f 124 rfl rfl (by omega) ?_
      refine p_aload 125 rfl rfl rfl ?_
      refine p_callv (le := [some (.inr (.inr 66))]) (as := [.inr (.inr 66)]) (rest := []) 128 0 0 0 0 rfl rfl (Nat.le_of_ble_eq_true rfl) rfl (Nat.le_of_ble_eq_true rfl) rfl rfl (Nat.le_of_ble_eq_true rfl) rfl (Nat.le_of_ble_eq_true rfl) rfl (Nat.le_refl _) (Nat.le_refl _) rfl rfl (tg_66 S1) ?_
      refine m_drops S1 R1.2.2.2.2.2.2.1 R1.2.2.2.2.2.2.2.1 (by omega) (by omega) (fun y1 p1 S1 => ?_)
      show Wp (d + 8) 0 0 M_X12_test 128 [some (.inr (.inr 66)), some (.inl 0), w] [] y1 _
      refine p_goto 110 rfl rfl ?_
      -- leaf 1: loop 110 [some (.inr (.inr 66)), some (.inl 0), w] st=[] h=y1 
      exact ih (E ++ [x]) j c w _ er (by rw [List.append_assoc]; exact eE) (R1.drop p1.1 p1.2.1 p1.2.2) S1
  have Z := D _ (mtst_clo (d := d) (h0 := h0) (q := q) O LX)
  have Z : ∀ h V C, RdM h0 h T n L i 0 0 V C → (prv L i).1 ≠ 3 → tT V → Shape h → FT d h0 q T n L 0 V C r → WT d q h := Z
  have fin : FT d h0 q T n L 0 [] C r := by
    rcases hr : r with ⟨j, c⟩ | ⟨k, p⟩
    · intro h1 P E aP e nA nO R1 S1 cc
      rw [List.nil_append] at R1
      have n25 : ¬ 25 ∈ P.reverse := fun z => no25 aP (List.mem_reverse.1 z)
      refine m_gtHead S1 O LX R1 (fun _ z => absurd z n25) (fun _ h2 R2 S2 => ?_)
      refine m_gtRest S2 O LX R2 (fun z => absurd z nA) (fun _ z => absurd z nO) (fun _ _ z => absurd z n25) (fun _ _ _ h3 R3 S3 => ?_)
      show Wp (d + 8) 0 0 M_X12_test 98 [some (.inr (.inr 66)), some (.inl 1), some (.inl cc)] [.inl 0] h3 q
      have G : Wp (d + 8) 0 0 M_X12_test 2 [some (.inr (.inr 66)), some (.inl 0), some (.inl cc)] [] h3 q := by
        refine p_iload 3 rfl rfl rfl ?_
        refine p_if_eq_t 110 rfl rfl (by decide) ?_
        -- leaf 1: loop 110 [some (.inr (.inr 66)), some (.inl 0), some (.inl cc)] st=[] h=h3 
        exact J110 P E j c _ h3 hr e R3 S3
      refine p_if_eq_t 105 rfl rfl (by decide) ?_
      refine p_const 106 rfl rfl ?_
      refine p_istore (ls' := [some (.inr (.inr 66)), some (.inl 0), some (.inl cc)]) 107 rfl rfl (Nat.le_of_ble_eq_true rfl) rfl ?_
      refine p_goto 2 rfl rfl ?_
      -- leaf 1: loop 2 [some (.inr (.inr 66)), some (.inl 0), some (.inl cc)] st=[] h=h3 
      exact G
    · intro h1 B1 S1
      exact K2 k p hr h1 B1 S1
  refine p_const 1 rfl rfl ?_
  refine p_istore (ls' := [some (.inr (.inr 66)), some (.inl 1), none]) 2 rfl rfl (Nat.le_of_ble_eq_true rfl) rfl ?_
  -- leaf 1: loop 2 [some (.inr (.inr 66)), some (.inl 1), none] st=[] h=h 
  exact Z h [] C R p3 (fun W x e => by cases W <;> cases e) S fin none

