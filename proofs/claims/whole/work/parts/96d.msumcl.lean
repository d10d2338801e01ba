/-! THE MODEL'S READER: sums, along a derivation -/
section MSUM
variable {d : Nat} {h0 : PH} {qa qb : PQ} {T : Int → Int} {n : Int} {L : List Tok} {b : Int}
abbrev WPa (d : Nat) (qa : PQ) (h : PH) : Prop := Wp (d + 5) 0 0 M_X12_part 0 [some (.inr (.inr 66))] [] h qa
abbrev WGo (d : Nat) (qb : PQ) (h : PH) : Prop := Wp (d + 5) 0 0 M_X12_goesOn 0 [some (.inr (.inr 66)), none] [] h qb
def FinA (d : Nat) (h0 : PH) (qa qb : PQ) (T : Int → Int) (n : Int) (L : List Tok) (b : Int) (o : Nat) (W C : List Int) (r : Rs) : Prop := match r with
  | .inl (j, c) => ∀ h', RdM h0 h' T n L j o b W (C ++ c) → Shape h' → WGo d qb h'
  | .inr (k, p) => ∀ h', BdM h0 h' k p → Shape h' → qa none h' ∧ qb (some (.inl 0)) h'
def FinS (d : Nat) (h0 : PH) (qa qb : PQ) (T : Int → Int) (n : Int) (L : List Tok) (b : Int) (o : Nat) (W C : List Int) (r : Rs) : Prop := match r with
  | .inl (j, c) => ∀ h' pend C', pendOp pend → C' ++ pend = C ++ c → jAt L j = -1 → RdM h0 h' T n L j o b (W ++ pend) C' → Shape h' → WGo d qb h'
  | .inr (k, p) => ∀ h', BdM h0 h' k p → Shape h' → qa none h' ∧ qb (some (.inl 0)) h'
def MSm (d : Nat) (h0 : PH) (qa qb : PQ) (T : Int → Int) (n : Int) (L : List Tok) (b : Int) : DR := fun m acc o i r => match m with
  | 0 => ∀ h W C, RdM h0 h T n L i o b W C → (prv L i).1 ≠ 3 → b ≤ W.length → Shape h → FinA d h0 qa qb T n L b o W C r → WPa d qa h
  | 1 => ∀ h W C, RdM h0 h T n L i o b W C → (prv L i).1 ≠ 3 → b ≤ W.length → noOp W → Shape h → FinS d h0 qa qb T n L b o W C r → WPa d qa h
  | 2 => ∀ h W C pend C', pendOp pend → C' ++ pend = C ++ acc → RdM h0 h T n L i o b (W ++ pend) C' → noOp W → b ≤ W.length → Shape h → FinS d h0 qa qb T n L b o W C r → WGo d qb h
  | _ => True
theorem noOp_mark (W : List Int) {x : Int} (hx : ¬ (1 ≤ x ∧ x ≤ 3)) : noOp (W ++ [x]) := fun V y e => by
  have z := List.append_inj' e rfl
  have : x = y := by have := z.2; cases this; rfl
  rw [← this]; exact hx
theorem hasMark_mid {W pend : List Int} {b : Int} (bw : b ≤ W.length) : hasMark (W ++ [20] ++ pend) b := ⟨W.length, bw, by
  rw [List.append_assoc, List.getElem?_append_right (Nat.le_refl _), Nat.sub_self]; rfl⟩
theorem prv_sg {L : List Tok} {i : Nat} (h : (tk L i).1 = 4) : (prv L (i + 1)).1 ≠ 3 := by
  show (tk L i).1 ≠ 3
  omega
theorem jAt_41 {L : List Tok} {i : Nat} (y : isSg L i 41) : jAt L i = -1 := by
  unfold jAt
  rw [if_pos y.1, y.2]; rfl
theorem jAt_in {L : List Tok} {i : Nat} (h : jAt L i ≠ -1) : 1 ≤ jAt L i ∧ jAt L i ≤ 3 := by
  unfold jAt at h ⊢
  by_cases z : (tk L i).1 = 4
  · rw [if_pos z] at h ⊢
    unfold jcd at h ⊢
    (repeat' split at h ⊢) <;> omega
  · rw [if_neg z] at h; exact absurd rfl h
theorem msum_clo (O : TxO T n) (LX : LexA T n L) (b0 : 0 ≤ b)
    (HL1 : ∀ h' i o W C, RdM h0 h' T n L i o b W C → Shape h' → WGo d qb h' → qa none h')
    (HL3 : ∀ h' i o W C, RdM h0 h' T n L i o b W C → Shape h' → WPa d qa h' → qb (some (.inl 1)) h') : Clo L (MSm d h0 qa qb T n L b) := by
  have mk : ¬ ((1 : Int) ≤ 20 ∧ (20 : Int) ≤ 3) := by decide
  have head : ∀ (h : PH) (i o : Nat) (W C : List Int), RdM h0 h T n L i o b W C → (prv L i).1 ≠ 3 → b ≤ W.length → Shape h →
      (isSg L i 40 → o < 6 → ∀ h', RdM h0 h' T n L (i + 1) (o + 1) b (W ++ [20]) C → Shape h' → WPa d qa h') →
      (isSg L i 40 → 6 ≤ o → ∀ h', BdM h0 h' 3 (tk L i).2.1 → Shape h' → qa none h') →
      (¬ isSg L i 40 → ∀ h', RdM h0 h' T n L i o b W C → Shape h' → Wp (d + 5) 0 0 M_X12_part 39 [some (.inr (.inr 66))] [] h' qa) → WPa d qa h := fun h i o W C R p3 bw S k1 k2 k3 => m_partHead (d := d + 1) S O LX R k1 k2 k3
  have leaf : ∀ (h : PH) (i o : Nat) (W C : List Int), RdM h0 h T n L i o b W C → (prv L i).1 ≠ 3 → Shape h →
      (fAt L i ≠ -1 → ¬ ((tk L i).1 = 2 ∧ (tk L i).2.1 + 4 < (tk L i).2.2.1) → ∀ h', RdM h0 h' T n L (i + 1) o b W (C ++ [fAt L i]) → Shape h' → qa none h') →
      (fAt L i ≠ -1 → (tk L i).1 = 2 → (tk L i).2.1 + 4 < (tk L i).2.2.1 → ∀ h', BdM h0 h' 1 ((tk L i).2.1 + 4) → Shape h' → qa none h') →
      (fAt L i = -1 → ∀ h', BdM h0 h' 1 (tk L i).2.1 → Shape h' → qa none h') → Wp (d + 5) 0 0 M_X12_part 39 [some (.inr (.inr 66))] [] h qa := fun h i o W C R p3 S k1 k2 k3 => m_leaf (d := d + 1) S O LX R p3 k1 k2 k3
  refine ⟨?_, ?_, ?_, ?_, ?_, ?_, ?_, ?_, ?_, ?_, ?_, ?_, ?_, ?_, ?_, ?_, ?_, ?_, ?_, ?_, ?_, ?_, ?_, ?_, ?_, ?_, ?_, ?_, ?_, ?_, ?_, ?_, ?_, ?_⟩
  · intro o i s o6 h W C R p3 bw S F
    exact head h i o W C R p3 bw S (fun _ z => absurd z (by omega)) (fun _ _ h' B' S' => (F h' B' S').1) (fun z => absurd s z)
  · intro o i k p s o6 ih h W C R p3 bw S F
    exact head h i o W C R p3 bw S (fun _ _ h' R' S' => ih h' (W ++ [20]) C R' (prv_sg s.1) (by rw [List.length_append]; show b ≤ ((W.length + 1 : Nat) : Int); omega) (noOp_mark W mk) S' F) (fun _ z => absurd o6 (by omega)) (fun z => absurd s z)
  · intro o i j c s o6 ih sj h W C R p3 bw S F
    refine head h i o W C R p3 bw S (fun _ _ h' R' S' => ih h' (W ++ [20]) C R' (prv_sg s.1) (by rw [List.length_append]; show b ≤ ((W.length + 1 : Nat) : Int); omega) (noOp_mark W mk) S' ?_) (fun _ z => absurd o6 (by omega)) (fun z => absurd s z)
    intro h2 pend C' pp e jn R2 S2
    refine m_goesHead S2 O LX R2 b0 (fun _ _ h3 R3 g2 S3 => ?_) (fun z => absurd ⟨sj, hasMark_mid bw⟩ z)
    refine m_goesClose S3 O LX R3 pp b0 bw sj g2 (fun h4 R4 S4 => ?_)
    rw [e] at R4
    exact F h4 R4 S4
  · intro o i j c s o6 ih sj h W C R p3 bw S F
    refine head h i o W C R p3 bw S (fun _ _ h' R' S' => ih h' (W ++ [20]) C R' (prv_sg s.1) (by rw [List.length_append]; show b ≤ ((W.length + 1 : Nat) : Int); omega) (noOp_mark W mk) S' ?_) (fun _ z => absurd o6 (by omega)) (fun z => absurd s z)
    intro h2 pend C' pp e jn R2 S2
    refine m_goesHead S2 O LX R2 b0 (fun y => absurd y sj) (fun _ h3 R3 S3 => ?_)
    exact m_goesSign S3 O LX R3 pp (noOp_mark W mk) b0 (fun z => absurd jn z) (fun _ _ h4 B4 S4 => (F h4 B4 S4).2) (fun _ z => absurd (hasMark_mid bw) z)
  · intro o i s f h W C R p3 bw S F
    exact head h i o W C R p3 bw S (fun z => absurd z s) (fun z => absurd z s) (fun _ h' R' S' => leaf h' i o W C R' p3 S' (fun z => absurd f z) (fun z => absurd f z) (fun _ h2 B2 S2 => (F h2 B2 S2).1))
  · intro o i s f k2 lg h W C R p3 bw S F
    exact head h i o W C R p3 bw S (fun z => absurd z s) (fun z => absurd z s) (fun _ h' R' S' => leaf h' i o W C R' p3 S' (fun _ z => absurd ⟨k2, lg⟩ z) (fun _ _ _ h2 B2 S2 => (F h2 B2 S2).1) (fun z => absurd z f))
  · intro o i s f lg h W C R p3 bw S F
    exact head h i o W C R p3 bw S (fun z => absurd z s) (fun z => absurd z s) (fun _ h' R' S' => leaf h' i o W C R' p3 S' (fun _ _ h2 R2 S2 => HL1 h2 _ _ _ _ R2 S2 (F h2 R2 S2)) (fun _ y z => absurd ⟨y, z⟩ lg) (fun z => absurd z f))
  · intro o i k p ih h W C R p3 bw no S F
    exact ih h W C R p3 bw S F
  · intro o i j c r ih1 ih2 h W C R p3 bw no S F
    refine ih1 h W C R p3 bw S (fun h' R' S' => ?_)
    exact ih2 h' W C [] (C ++ c) (Or.inl rfl) (List.append_nil _) (by rw [List.append_nil]; exact R') no bw S' F
  · intro o i acc jn h W C pend C' pp e R no bw S F
    exact F h pend C' pp e jn R S
  · intro o i acc k p jn ih h W C pend C' pp e R no bw S F
    have j4 := jAt_k jn
    refine m_goesHead S O LX R b0 (fun y => absurd (jAt_41 y) jn) (fun _ h3 R3 S3 => ?_)
    refine m_goesSign S3 O LX R3 pp no b0 (fun _ h4 R4 S4 => ?_) (fun z => absurd z jn) (fun z => absurd z jn)
    refine HL3 h4 _ _ _ _ R4 S4 (ih h4 _ _ R4 (prv_sg j4) (by rw [List.length_append]; show b ≤ ((W.length + 1 : Nat) : Int); omega) S4 F)
  · intro o i acc j c r jn ih1 ih2 h W C pend C' pp e R no bw S F
    have j4 := jAt_k jn
    refine m_goesHead S O LX R b0 (fun y => absurd (jAt_41 y) jn) (fun _ h3 R3 S3 => ?_)
    refine m_goesSign S3 O LX R3 pp no b0 (fun _ h4 R4 S4 => ?_) (fun z => absurd z jn) (fun z => absurd z jn)
    refine HL3 h4 _ _ _ _ R4 S4 (ih1 h4 _ _ R4 (prv_sg j4) (by rw [List.length_append]; show b ≤ ((W.length + 1 : Nat) : Int); omega) S4 (fun h5 R5 S5 => ?_))
    refine ih2 h5 W C [jAt L i] (C' ++ pend ++ c) ?_ ?_ R5 no bw S5 F
    · exact Or.inr ⟨_, rfl, (jAt_in jn).1, (jAt_in jn).2⟩
    · rw [e, List.append_assoc, List.append_assoc, ← List.append_assoc acc]
  all_goals (intro o i; intros; exact True.intro)
end MSUM

