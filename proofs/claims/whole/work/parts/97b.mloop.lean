/-! THE MODEL'S BOOK: its statements -/
theorem tok_end {T : Int → Int} {n : Int} {L : List Tok} {i : Nat} (O : TxO T n) (A : TokA T n L i) : (tk L i).1 = 0 ↔ T (tk L i).2.1 = -1 := by
  obtain ⟨_, _, ⟨e, e2⟩ | ⟨sn, en, k, tc, e⟩⟩ := A
  · have z := O.2.2 n (by omega)
    rw [← e2] at z
    exact ⟨fun _ => z, fun _ => e⟩
  · have b := O.2.1 (tk L i).2.1 (by omega) sn
    have kk := tc.k
    have k0 : (tk L i).1 ≠ 0 := by
      rcases knd_or (kb := (prv L i).1) (pb := (prv L i).2) (s := (tk L i).2.1) (k := k) with y | y <;> omega
    exact ⟨fun z => absurd z k0, fun z => by omega⟩
theorem epg_snoc (G : List Sns) (s : Sns) : (prgG (G ++ [s])).length = (prgG G).length + s.2.2.length := by
  unfold prgG
  rw [List.flatMap_append, List.length_append]
  show _ + (s.2.2 ++ []).length = _
  rw [List.append_nil]
theorem nm_ok6 {L : List Tok} {G : List Sns} {i j : Nat} {s : Sns} (m : Mx6 G) (h : StOk L G i j s) : Mx6 (G ++ [s]) := by
  obtain ⟨_, k, _, _, _, _, _, _, e, _⟩ := h
  exact m.snoc (by rw [e]; exact k.2.2.2)
section MLP
variable {d : Nat} {h0 : PH} {q : PQ} {T : Int → Int} {n : Int} {L : List Tok}
theorem ml_ok (O : TxO T n) (LX : LexA T n L) : ∀ (Rr G : List Sns) (i : Nat) (h : PH), StA h0 h T n G (prgG G) → MAt h T n L i → Mx6 G → (prgG G).length ≤ i → OkB L Rr G i → Shape h → (∀ h', StA h0 h' T n (G ++ Rr) (prgG (G ++ Rr)) → Shape h' → Wp (d + 10) 0 0 M_X12_book 85 [some (.inr (.inr 66)), none, none] [] h' q) → Wp (d + 10) 0 0 M_X12_book 63 [some (.inr (.inr 66)), none, none] [] h q := by
  intro Rr
  have B := LX.tl O
  have l7 := B.1
  induction Rr with
  | nil =>
    intro G i h R M mx pl D S K
    have D : (tk L i).1 = 0 := D
    have te := (tok_end O (LX.tok O M.1)).1 D
    rw [List.append_nil] at K
    have b5 := R.2.2.2.2
    refine p_aload 64 rfl rfl rfl ?_
    refine p_getfi (j := 5) (z := gv h 66 5) 67 rfl rfl rfl (tg_66 S) rfl rfl ?_
    refine p_if_ne_f 70 rfl rfl (by omega) ?_
    refine p_aload 71 rfl rfl rfl ?_
    refine p_callv (le := [some (.inr (.inr 66))]) (as := [.inr (.inr 66)]) (rest := []) 74 0 0 0 0 rfl rfl (Nat.le_of_ble_eq_true rfl) rfl (Nat.le_of_ble_eq_true rfl) rfl rfl (Nat.le_of_ble_eq_true rfl) rfl (Nat.le_of_ble_eq_true rfl) rfl (Nat.le_refl _) (Nat.le_refl _) rfl rfl (tg_66 S) ?_
    refine m_lookT S O R.2.1.1 LX M (fun r1 y1 p1 S1 => ?_)
    show Wp (d + 10) 0 0 M_X12_book 74 [some (.inr (.inr 66)), none, none] [.inl r1] y1 _
    refine p_const 75 rfl rfl ?_
    have r1e : r1 = -1 := by have := p1.2.1; omega
    refine p_ic_eq_t 85 rfl rfl (by omega) ?_
    -- leaf 1: loop 85 [some (.inr (.inr 66)), none, none] st=[] h=y1 
    exact K _ (R.kp (p1.1.wide lukA_nmA) ((p1.1.1 66 5 rfl).trans b5) (p1.1.1 66 6 rfl)) S1
  | cons s Rr ih =>
    intro G i h R M mx pl D S K
    obtain ⟨ne, g40, j, st, D2⟩ : (tk L i).1 ≠ 0 ∧ G.length < 40 ∧ ∃ j, StOk L G i j s ∧ OkB L Rr (G ++ [s]) j := D
    have te : T (tk L i).2.1 ≠ -1 := fun z => ne ((tok_end O (LX.tok O M.1)).2 z)
    have i7 := (B.nx M.1 ne).1
    have b5 := R.2.2.2.2
    have sl := st.len
    refine p_aload 64 rfl rfl rfl ?_
    refine p_getfi (j := 5) (z := gv h 66 5) 67 rfl rfl rfl (tg_66 S) rfl rfl ?_
    refine p_if_ne_f 70 rfl rfl (by omega) ?_
    refine p_aload 71 rfl rfl rfl ?_
    refine p_callv (le := [some (.inr (.inr 66))]) (as := [.inr (.inr 66)]) (rest := []) 74 0 0 0 0 rfl rfl (Nat.le_of_ble_eq_true rfl) rfl (Nat.le_of_ble_eq_true rfl) rfl rfl (Nat.le_of_ble_eq_true rfl) rfl (Nat.le_of_ble_eq_true rfl) rfl (Nat.le_refl _) (Nat.le_refl _) rfl rfl (tg_66 S) ?_
    refine m_lookT S O R.2.1.1 LX M (fun r1 y1 p1 S1 => ?_)
    show Wp (d + 10) 0 0 M_X12_book 74 [some (.inr (.inr 66)), none, none] [.inl r1] y1 _
    refine p_const 75 rfl rfl ?_
    have r1e : r1 ≠ -1 := by have := p1.2.1; omega
    have R1 : StA h0 y1 T n G (prgG G) := R.kp (p1.1.wide lukA_nmA) ((p1.1.1 66 5 rfl).trans b5) (p1.1.1 66 6 rfl)
    have go : ∀ (j' : Nat) (s' : Sns), (Sum.inl (j, s) : Rst) = .inl (j', s') → ∀ h', (StA h0 h' T n (G ++ [s']) (prgG (G ++ [s'])) ∧ MAt h' T n L j') → Shape h' → Wp (d + 10) 0 0 M_X12_book 82 [some (.inr (.inr 66)), none, none] [] h' q := by
      intro j' s' er h2 R2 S2
      cases er
      refine p_goto 63 rfl rfl ?_
      exact ih (G ++ [s]) j h2 R2.1 R2.2 (nm_ok6 mx st) (by rw [epg_snoc]; omega) D2 S2 (fun h' R' S' => K h' (by rw [List.append_assoc] at R'; exact R') S')
    refine p_ic_eq_f 78 rfl rfl (by omega) ?_
    refine p_aload 79 rfl rfl rfl ?_
    refine p_callv (le := [some (.inr (.inr 66)), none, none, none, none]) (as := [.inr (.inr 66)]) (rest := []) 82 0 0 0 0 rfl rfl (Nat.le_of_ble_eq_true rfl) rfl (Nat.le_of_ble_eq_true rfl) rfl rfl (Nat.le_of_ble_eq_true rfl) rfl (Nat.le_of_ble_eq_true rfl) rfl (Nat.le_refl _) (Nat.le_refl _) rfl rfl (tg_66 S1) ?_
    exact (m_statement (r := .inl (j, s)) O LX S1 R1 p1.2.2.1 (by omega) g40 pl mx st (fun j' s' er h2 R2 S2 => go j' s' er h2 R2 S2) (fun k p er => by cases er))
theorem ml_bad (O : TxO T n) (LX : LexA T n L) {k p : Int} : ∀ (Rr G : List Sns) (i : Nat) (h : PH), StA h0 h T n G (prgG G) → MAt h T n L i → Mx6 G → (prgG G).length ≤ i → BadB L k p Rr G i → Shape h → (∀ h', BdE h0 h' k p → Shape h' → Wp (d + 10) 0 0 M_X12_book 85 [some (.inr (.inr 66)), none, none] [] h' q) → Wp (d + 10) 0 0 M_X12_book 63 [some (.inr (.inr 66)), none, none] [] h q := by
  intro Rr
  have B := LX.tl O
  have l7 := B.1
  have out : ∀ (h1 : PH), BdE h0 h1 k p → Shape h1 → (∀ h', BdE h0 h' k p → Shape h' → Wp (d + 10) 0 0 M_X12_book 85 [some (.inr (.inr 66)), none, none] [] h' q) → Wp (d + 10) 0 0 M_X12_book 82 [some (.inr (.inr 66)), none, none] [] h1 q := by
    intro h1 Bd S1 K
    have b1 := Bd.2.1
    have b2 := Bd.2.2.1
    refine p_goto 63 rfl rfl ?_
    refine p_aload 64 rfl rfl rfl ?_
    refine p_getfi (j := 5) (z := gv h1 66 5) 67 rfl rfl rfl (tg_66 S1) rfl rfl ?_
    refine p_if_ne_t 85 rfl rfl (by omega) ?_
    -- leaf 1: loop 85 [some (.inr (.inr 66)), none, none] st=[] h=h1 
    exact K _ Bd S1
  induction Rr with
  | nil =>
    intro G i h R M mx pl D S K
    obtain ⟨ne, D⟩ : (tk L i).1 ≠ 0 ∧ ((G.length = 40 ∧ k = 4 ∧ p = (tk L i).2.1) ∨ (G.length < 40 ∧ StBad L G i k p)) := D
    have te : T (tk L i).2.1 ≠ -1 := fun z => ne ((tok_end O (LX.tok O M.1)).2 z)
    have i7 := (B.nx M.1 ne).1
    have b5 := R.2.2.2.2
    refine p_aload 64 rfl rfl rfl ?_
    refine p_getfi (j := 5) (z := gv h 66 5) 67 rfl rfl rfl (tg_66 S) rfl rfl ?_
    refine p_if_ne_f 70 rfl rfl (by omega) ?_
    refine p_aload 71 rfl rfl rfl ?_
    refine p_callv (le := [some (.inr (.inr 66))]) (as := [.inr (.inr 66)]) (rest := []) 74 0 0 0 0 rfl rfl (Nat.le_of_ble_eq_true rfl) rfl (Nat.le_of_ble_eq_true rfl) rfl rfl (Nat.le_of_ble_eq_true rfl) rfl (Nat.le_of_ble_eq_true rfl) rfl (Nat.le_refl _) (Nat.le_refl _) rfl rfl (tg_66 S) ?_
    refine m_lookT S O R.2.1.1 LX M (fun r1 y1 p1 S1 => ?_)
    show Wp (d + 10) 0 0 M_X12_book 74 [some (.inr (.inr 66)), none, none] [.inl r1] y1 _
    refine p_const 75 rfl rfl ?_
    have r1e : r1 ≠ -1 := by have := p1.2.1; omega
    have R1 : StA h0 y1 T n G (prgG G) := R.kp (p1.1.wide lukA_nmA) ((p1.1.1 66 5 rfl).trans b5) (p1.1.1 66 6 rfl)
    have go : Wp (d + 9) 0 0 M_X12_statement 0 [some (.inr (.inr 66)), none, none, none, none] [] y1 (fun r h' => Wp (d + 10) 0 0 M_X12_book 82 [some (.inr (.inr 66)), none, none] (r.toList ++ []) h' q) := by
      rcases D with ⟨g40, ek, ep⟩ | ⟨g40, sb⟩
      · exact m_statement40 O LX S1 R1 p1.2.2.1 g40 (fun h2 B2 S2 => out h2 (by rw [ek, ep]; exact B2) S2 K)
      · exact m_statement (r := .inr (k, p)) O LX S1 R1 p1.2.2.1 (by omega) g40 pl mx sb (fun j s er => by cases er) (fun k' p' er h2 B2 S2 => by cases er; exact out h2 B2 S2 K)
    refine p_ic_eq_f 78 rfl rfl (by omega) ?_
    refine p_aload 79 rfl rfl rfl ?_
    refine p_callv (le := [some (.inr (.inr 66)), none, none, none, none]) (as := [.inr (.inr 66)]) (rest := []) 82 0 0 0 0 rfl rfl (Nat.le_of_ble_eq_true rfl) rfl (Nat.le_of_ble_eq_true rfl) rfl rfl (Nat.le_of_ble_eq_true rfl) rfl (Nat.le_of_ble_eq_true rfl) rfl (Nat.le_refl _) (Nat.le_refl _) rfl rfl (tg_66 S1) ?_
    exact go
  | cons s Rr ih =>
    intro G i h R M mx pl D S K
    obtain ⟨ne, g40, j, st, D2⟩ : (tk L i).1 ≠ 0 ∧ G.length < 40 ∧ ∃ j, StOk L G i j s ∧ BadB L k p Rr (G ++ [s]) j := D
    have te : T (tk L i).2.1 ≠ -1 := fun z => ne ((tok_end O (LX.tok O M.1)).2 z)
    have i7 := (B.nx M.1 ne).1
    have b5 := R.2.2.2.2
    have sl := st.len
    refine p_aload 64 rfl rfl rfl ?_
    refine p_getfi (j := 5) (z := gv h 66 5) 67 rfl rfl rfl (tg_66 S) rfl rfl ?_
    refine p_if_ne_f 70 rfl rfl (by omega) ?_
    refine p_aload 71 rfl rfl rfl ?_
    refine p_callv (le := [some (.inr (.inr 66))]) (as := [.inr (.inr 66)]) (rest := []) 74 0 0 0 0 rfl rfl (Nat.le_of_ble_eq_true rfl) rfl (Nat.le_of_ble_eq_true rfl) rfl rfl (Nat.le_of_ble_eq_true rfl) rfl (Nat.le_of_ble_eq_true rfl) rfl (Nat.le_refl _) (Nat.le_refl _) rfl rfl (tg_66 S) ?_
    refine m_lookT S O R.2.1.1 LX M (fun r1 y1 p1 S1 => ?_)
    show Wp (d + 10) 0 0 M_X12_book 74 [some (.inr (.inr 66)), none, none] [.inl r1] y1 _
    refine p_const 75 rfl rfl ?_
    have r1e : r1 ≠ -1 := by have := p1.2.1; omega
    have R1 : StA h0 y1 T n G (prgG G) := R.kp (p1.1.wide lukA_nmA) ((p1.1.1 66 5 rfl).trans b5) (p1.1.1 66 6 rfl)
    have go : ∀ (j' : Nat) (s' : Sns), (Sum.inl (j, s) : Rst) = .inl (j', s') → ∀ h', (StA h0 h' T n (G ++ [s']) (prgG (G ++ [s'])) ∧ MAt h' T n L j') → Shape h' → Wp (d + 10) 0 0 M_X12_book 82 [some (.inr (.inr 66)), none, none] [] h' q := by
      intro j' s' er h2 R2 S2
      cases er
      refine p_goto 63 rfl rfl ?_
      exact ih (G ++ [s]) j h2 R2.1 R2.2 (nm_ok6 mx st) (by rw [epg_snoc]; omega) D2 S2 K
    refine p_ic_eq_f 78 rfl rfl (by omega) ?_
    refine p_aload 79 rfl rfl rfl ?_
    refine p_callv (le := [some (.inr (.inr 66)), none, none, none, none]) (as := [.inr (.inr 66)]) (rest := []) 82 0 0 0 0 rfl rfl (Nat.le_of_ble_eq_true rfl) rfl (Nat.le_of_ble_eq_true rfl) rfl rfl (Nat.le_of_ble_eq_true rfl) rfl (Nat.le_of_ble_eq_true rfl) rfl (Nat.le_refl _) (Nat.le_refl _) rfl rfl (tg_66 S1) ?_
    exact (m_statement (r := .inl (j, s)) O LX S1 R1 p1.2.2.1 (by omega) g40 pl mx st (fun j' s' er h2 R2 S2 => go j' s' er h2 R2 S2) (fun k p er => by cases er))
end MLP

