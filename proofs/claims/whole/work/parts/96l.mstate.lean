/-! THE MODEL'S READER: a statement's state, full stops -/
/-- what becomes of a statement: read to token j, or a fault -/
abbrev Rst := Sum (Nat × Sns) (Int × Int)
def StR (L : List Tok) (G : List Sns) (i : Nat) (r : Rst) : Prop := match r with
  | .inl (j, s) => StOk L G i j s
  | .inr (k, p) => StBad L G i k p
theorem NmOk.no {L : List Tok} {G : List Sns} {i : Nat} {k p : Int} (a : NmOk L G i) (b : NmBad L G i k p) : False := by
  obtain ⟨a1, a2, a3, a4⟩ := a
  rcases b with ⟨b, _⟩ | ⟨_, _, b, _⟩ | ⟨_, _, _, b, _⟩
  · exact b ⟨a1, a2⟩
  · omega
  · omega
theorem NmBad.same {L : List Tok} {G : List Sns} {i : Nat} {k p k' p' : Int} (a : NmBad L G i k p) (b : NmBad L G i k' p') : k = k' ∧ p = p' := by
  rcases a with ⟨a1, a2, a3⟩ | ⟨a1, a2, a3, a4, a5⟩ | ⟨a1, a2, a3, a4, a5, a6⟩ <;> rcases b with ⟨b1, b2, b3⟩ | ⟨b1, b2, b3, b4, b5⟩ | ⟨b1, b2, b3, b4, b5, b6⟩
  · exact ⟨by omega, by omega⟩
  · exact absurd ⟨b1, b2⟩ a1
  · exact absurd ⟨b1, b2⟩ a1
  · exact absurd ⟨a1, a2⟩ b1
  · exact ⟨by omega, by omega⟩
  · omega
  · exact absurd ⟨a1, a2⟩ b1
  · omega
  · exact ⟨by omega, by omega⟩
theorem CdOk.no {L : List Tok} {i : Nat} {k p : Int} (a : CdOk L i) (b : CdBad L i k p) : False := by
  obtain ⟨a1, a2, a3⟩ := a
  rcases b with ⟨b, _⟩ | ⟨_, b, _⟩ | ⟨_, b, _⟩
  · exact b a1
  · omega
  · omega
theorem CdBad.same {L : List Tok} {i : Nat} {k p k' p' : Int} (a : CdBad L i k p) (b : CdBad L i k' p') : k = k' ∧ p = p' := by
  rcases a with ⟨a1, a2, a3⟩ | ⟨a1, a2, a3, a4⟩ | ⟨a1, a2, a3, a4⟩ <;> rcases b with ⟨b1, b2, b3⟩ | ⟨b1, b2, b3, b4⟩ | ⟨b1, b2, b3, b4⟩
  · exact ⟨by omega, by omega⟩
  · exact absurd b1 a1
  · exact absurd b1 a1
  · exact absurd a1 b1
  · exact ⟨by omega, by omega⟩
  · omega
  · exact absurd a1 b1
  · omega
  · exact ⟨by omega, by omega⟩
section STR
variable {L : List Tok} {G : List Sns} {i : Nat} {r : Rst}
theorem StR.sense (D : StR L G i r) (n : ¬ isWd L i 20101733) : r = .inr (1, (tk L i).2.1) := by
  rcases r with ⟨j, s⟩ | ⟨k, p⟩
  · exact absurd D.1 n
  · rcases D with ⟨_, a, b⟩ | ⟨a, _⟩
    · rw [a, b]
    · exact absurd a n
theorem StR.name (D : StR L G i r) (w : isWd L i 20101733) {k p : Int} (n : NmBad L G (i + 1) k p) : r = .inr (k, p) := by
  rcases r with ⟨j, s⟩ | ⟨k', p'⟩
  · exact (D.2.1.no n).elim
  · rcases D with ⟨a, _⟩ | ⟨_, a | ⟨a, _⟩⟩
    · exact absurd w a
    · have z := n.same a
      rw [z.1, z.2]
    · exact (a.no n).elim
theorem StR.is (D : StR L G i r) (w : isWd L i 20101733) (m : NmOk L G (i + 1)) (n : ¬ isWd L (i + 2) 307) : r = .inr (1, (tk L (i + 2)).2.1) := by
  rcases r with ⟨j, s⟩ | ⟨k', p'⟩
  · exact absurd D.2.2.1 n
  · rcases D with ⟨a, _⟩ | ⟨_, a | ⟨_, ⟨_, a, b⟩ | ⟨a, _⟩⟩⟩
    · exact absurd w a
    · exact (m.no a).elim
    · rw [a, b]
    · exact absurd a n
theorem StR.code (D : StR L G i r) (w : isWd L i 20101733) (m : NmOk L G (i + 1)) (v : isWd L (i + 2) 307) {k p : Int} (n : CdBad L (i + 3) k p) : r = .inr (k, p) := by
  rcases r with ⟨j, s⟩ | ⟨k', p'⟩
  · exact (D.2.2.2.1.no n).elim
  · rcases D with ⟨a, _⟩ | ⟨_, a | ⟨_, ⟨a, _⟩ | ⟨_, a | ⟨a, _⟩⟩⟩⟩
    · exact absurd w a
    · exact (m.no a).elim
    · exact absurd v a
    · have z := n.same a
      rw [z.1, z.2]
    · exact (a.no n).elim
/-- the end of a statement, c the codes of its test -/
def EndR (L : List Tok) (i j : Nat) (c : List Int) (r : Rst) : Prop := (isSg L j 59 → r = .inl (j + 1, ((tk L (i + 1)).2.2.2, (tk L (i + 3)).2.2.2, c))) ∧ (¬ isSg L j 59 → r = .inr (1, (tk L j).2.1))
theorem StR.test (D : StR L G i r) (w : isWd L i 20101733) (m : NmOk L G (i + 1)) (v : isWd L (i + 2) 307) (cd : CdOk L (i + 3)) (f : isWd L (i + 4) 6642) : ∃ r', Dv L 7 [] 0 (i + 5) r' ∧ (∀ k p, r' = bdR k p → r = .inr (k, p)) ∧ ∀ j c, r' = okR j c → EndR L i j c r := by
  rcases r with ⟨j, s⟩ | ⟨k', p'⟩
  · obtain ⟨_, _, _, _, j2, t, sg, e1, e2, e3⟩ := D
    rcases t with ⟨_, t⟩ | ⟨t, _⟩
    · refine ⟨_, t, fun k p z => (by cases z), fun j' c' z => ?_⟩
      cases z
      refine ⟨fun _ => ?_, fun z => absurd sg z⟩
      rw [e1, ← e2, ← e3]
    · exact absurd f t
  · rcases D with ⟨a, _⟩ | ⟨_, a | ⟨_, ⟨a, _⟩ | ⟨_, a | ⟨_, ⟨_, a⟩ | ⟨j, c, t, ns, a, b⟩⟩⟩⟩⟩
    · exact absurd w a
    · exact (m.no a).elim
    · exact absurd v a
    · exact (cd.no a).elim
    · exact ⟨_, a, fun k p z => (by cases z; rfl), fun j' c' z => (by cases z)⟩
    · rcases t with ⟨_, t⟩ | ⟨t, _⟩
      · refine ⟨_, t, fun k p z => (by cases z), fun j' c' z => ?_⟩
        cases z
        exact ⟨fun z => absurd z ns, fun _ => by rw [a, b]⟩
      · exact absurd f t
theorem StR.bare (D : StR L G i r) (w : isWd L i 20101733) (m : NmOk L G (i + 1)) (v : isWd L (i + 2) 307) (cd : CdOk L (i + 3)) (f : ¬ isWd L (i + 4) 6642) : EndR L i (i + 4) [] r := by
  rcases r with ⟨j, s⟩ | ⟨k', p'⟩
  · obtain ⟨_, _, _, _, j2, t, sg, e1, e2, e3⟩ := D
    rcases t with ⟨t, _⟩ | ⟨_, t, tc⟩
    · exact absurd t f
    · rw [t] at sg e1
      refine ⟨fun _ => ?_, fun z => absurd sg z⟩
      rw [e1, ← e2, ← e3, ← tc]
  · rcases D with ⟨a, _⟩ | ⟨_, a | ⟨_, ⟨a, _⟩ | ⟨_, a | ⟨_, ⟨a, _⟩ | ⟨j, c, t, ns, a, b⟩⟩⟩⟩⟩
    · exact absurd w a
    · exact (m.no a).elim
    · exact absurd v a
    · exact (cd.no a).elim
    · exact absurd a f
    · rcases t with ⟨t, _⟩ | ⟨_, t, tc⟩
      · exact absurd t f
      · rw [t] at ns b
        exact ⟨fun z => absurd z ns, fun _ => by rw [a, b]⟩
end STR
theorem TokA.cd {T : Int → Int} {n : Int} {L : List Tok} {i : Nat} (O : TxO T n) (A : TokA T n L i) : ((tk L i).1 = 3 ↔ T (tk L i).2.1 = 46) ∧ ((tk L i).1 = 3 → ends isLet T ((tk L i).2.1 + 1) (tk L i).2.2.1 ∧ (tk L i).2.2.2 = wq T ((tk L i).2.1 + 1) (tk L i).2.2.1 ∧ (tk L i).2.2.1 ≤ n ∧ (tk L i).2.1 < n) := by
  obtain ⟨_, _, ⟨e, e2⟩ | ⟨sn, en, k, tc, e⟩⟩ := A
  · have z := O.2.2 n (by omega)
    rw [← e2] at z
    exact ⟨⟨fun y => by omega, fun y => by omega⟩, fun y => by omega⟩
  · have k3 : (tk L i).1 = 3 ↔ k = 3 := by
      have kk := tc.k
      rcases knd_or (kb := (prv L i).1) (pb := (prv L i).2) (s := (tk L i).2.1) (k := k) with y | y
      · omega
      · have := (knd_5 (by omega)).1 y
        have w := this.1
        unfold wdy at w
        omega
    rcases tc with ⟨a, _, b, _⟩ | ⟨a, _, b, _⟩ | ⟨a, b, c, v⟩ | ⟨_, _, a, _, b, _⟩
    · exact ⟨⟨fun y => by omega, fun y => by omega⟩, fun y => by omega⟩
    · exact ⟨⟨fun y => by omega, fun y => by omega⟩, fun y => by omega⟩
    · exact ⟨⟨fun _ => a, fun _ => k3.2 c⟩, fun _ => ⟨b, v, en.2, sn⟩⟩
    · exact ⟨⟨fun y => by omega, fun y => by omega⟩, fun y => by omega⟩
theorem m_takesDot {d : Nat} {h : PH} {q : PQ} (S : Shape h) {T : Int → Int} {n : Int} {L : List Tok} {i : Nat} (O : TxO T n) (X : TxM h T n) (LX : LexA T n L) (M : MAt h T n L i) (b0 : gv h 66 5 = 0)
    (K1 : ∀ h', (Keep lukA h h' ∧ (tk L i).1 = 3 ∧ gv h' 66 2 = (tk L i).2.1 + 1) → Shape h' → q (some (.inl 1)) h') (K2 : ∀ h', (Keep lukA h h' ∧ (tk L i).1 ≠ 3 ∧ gv h' 66 2 = (tk L i).2.1) → Shape h' → q (some (.inl 0)) h') :
    Wp (d + 2) 0 0 M_X12_takesSign 0 [some (.inr (.inr 66)), some (.inl 46)] [] h q := by
  have n7 := O.1
  have TA := LX.tok O M.1
  have t2 := TA.2.1
  have cd := (TA.cd O).1
  refine p_aload 1 rfl rfl rfl ?_
  refine p_getfi (j := 5) (z := gv h 66 5) 4 rfl rfl rfl (tg_66 S) rfl rfl ?_
  refine p_if_ne_f 7 rfl rfl (by omega) ?_
  refine p_aload 8 rfl rfl rfl ?_
  refine p_callv (le := [some (.inr (.inr 66))]) (as := [.inr (.inr 66)]) (rest := []) 11 0 0 0 0 rfl rfl (Nat.le_of_ble_eq_true rfl) rfl (Nat.le_of_ble_eq_true rfl) rfl rfl (Nat.le_of_ble_eq_true rfl) rfl (Nat.le_of_ble_eq_true rfl) rfl (Nat.le_refl _) (Nat.le_refl _) rfl rfl (tg_66 S) ?_
  refine m_lookT S O X LX M (fun r1 y1 p1 S1 => ?_)
  show Wp (d + 2) 0 0 M_X12_takesSign 11 [some (.inr (.inr 66)), some (.inl 46)] [.inl r1] y1 _
  obtain ⟨kl, re, M2, g2⟩ := p1
  refine p_iload 12 rfl rfl rfl ?_
  refine p_ic_eq 15 17 rfl rfl rfl (fun c2 => ?_) (fun c2 => ?_)
  · skip
    refine p_aload 18 rfl rfl rfl ?_
    refine p_dup 19 rfl rfl nl_r ?_
    refine p_getfi (j := 2) (z := gv y1 66 2) 22 rfl rfl rfl (tg_66 S1) rfl rfl ?_
    refine p_const 23 rfl rfl ?_
    refine p_iadd (z := (gv y1 66 2) + 1) 24 rfl rfl (w32_id ⟨(by omega), (by omega)⟩) ?_
    have g3 : gv y1 66 2 + 1 = (tk L i).2.1 + 1 := by omega
    refine p_putfi (j := 2) 27 rfl rfl rfl (fun z => absurd z (by decide)) (tg_66 S1) rfl ?_
    refine p_nmh (fun y3 e3 => ?_)
    have S3 : Shape y3 := by rw [e3]; exact S1.svF ff_66_2 _
    refine p_const 28 rfl rfl ?_
    refine p_zret rfl rfl (by decide) ?_
    -- leaf 1: answer [.inl 1] h=y3 e3
    exact K1 _ ⟨by rw [e3]; exact kl.sv rfl _, cd.2 (by omega), by rw [e3, sv_eq]; omega⟩ S3
  · skip
    refine p_const 16 rfl rfl ?_
    refine p_zret rfl rfl (by decide) ?_
    -- leaf 2: answer [.inl 0] h=y1 
    exact K2 _ ⟨kl, fun z => by have := cd.1 z; omega, g2⟩ S1
theorem m_asksDot {d : Nat} {h : PH} {q : PQ} (S : Shape h) {T : Int → Int} {n : Int} {L : List Tok} {i : Nat} (O : TxO T n) (X : TxM h T n) (LX : LexA T n L) (M : MAt h T n L i) (b0 : gv h 66 5 = 0)
    (K1 : ∀ h', (Keep lukA h h' ∧ (tk L i).1 = 3 ∧ gv h' 66 2 = (tk L i).2.1 + 1) → Shape h' → q none h') (K2 : ∀ h', (Keep nmA h h' ∧ (tk L i).1 ≠ 3 ∧ gv h' 66 5 = 1 ∧ gv h' 66 6 = (tk L i).2.1) → Shape h' → q none h') :
    Wp (d + 3) 0 0 M_X12_asksSign 0 [some (.inr (.inr 66)), some (.inl 46)] [] h q := by
  refine p_aload 1 rfl rfl rfl ?_
  refine p_getfi (j := 5) (z := gv h 66 5) 4 rfl rfl rfl (tg_66 S) rfl rfl ?_
  refine p_if_ne_f 7 rfl rfl (by omega) ?_
  refine p_aload 8 rfl rfl rfl ?_
  refine p_iload 9 rfl rfl rfl ?_
  refine p_callv (le := [some (.inr (.inr 66)), some (.inl 46)]) (as := [.inr (.inr 66), .inl 46]) (rest := []) 12 0 0 0 0 rfl rfl (Nat.le_of_ble_eq_true rfl) rfl (Nat.le_of_ble_eq_true rfl) rfl rfl (Nat.le_of_ble_eq_true rfl) rfl (Nat.le_of_ble_eq_true rfl) rfl (Nat.le_refl _) (Nat.le_refl _) rfl rfl (tg_66 S) ?_
  refine m_takesDot S O X LX M b0 (fun y1 p1 S1 => ?_) (fun y1 p1 S1 => ?_)
  · show Wp (d + 3) 0 0 M_X12_asksSign 12 [some (.inr (.inr 66)), some (.inl 46)] [.inl 1] y1 _
    refine p_if_ne_t 24 rfl rfl (by decide) ?_
    refine p_ret rfl rfl ?_
    -- leaf 1: answer [] h=y1 
    exact K1 _ p1 S1
  · show Wp (d + 3) 0 0 M_X12_asksSign 12 [some (.inr (.inr 66)), some (.inl 46)] [.inl 0] y1 _
    refine p_if_ne_f 15 rfl rfl (by decide) ?_
    refine p_aload 16 rfl rfl rfl ?_
    refine p_const 17 rfl rfl ?_
    refine p_aload 18 rfl rfl rfl ?_
    refine p_getfi (j := 2) (z := gv y1 66 2) 21 rfl rfl rfl (tg_66 S1) rfl rfl ?_
    refine p_callv (le := [some (.inr (.inr 66)), some (.inl 1), some (.inl (gv y1 66 2))]) (as := [.inr (.inr 66), .inl 1, .inl (gv y1 66 2)]) (rest := []) 24 0 0 0 0 rfl rfl (Nat.le_of_ble_eq_true rfl) rfl (Nat.le_of_ble_eq_true rfl) rfl rfl (Nat.le_of_ble_eq_true rfl) rfl (Nat.le_of_ble_eq_true rfl) rfl (Nat.le_refl _) (Nat.le_refl _) rfl rfl (tg_66 S1) ?_
    refine p_aload 1 rfl rfl rfl ?_
    refine p_getfi (j := 5) (z := gv y1 66 5) 4 rfl rfl rfl (tg_66 S1) rfl rfl ?_
    refine p_if_eq_t 8 rfl rfl (by exact (p1.1.1 66 5 rfl).trans b0) ?_
    refine p_aload 9 rfl rfl rfl ?_
    refine p_iload 10 rfl rfl rfl ?_
    refine p_putfi (j := 5) 13 rfl rfl rfl (fun z => absurd z (by decide)) (tg_66 S1) rfl ?_
    refine p_nmh (fun y2 e2 => ?_)
    have S2 : Shape y2 := by rw [e2]; exact S1.svF ff_66_5 _
    refine p_aload 14 rfl rfl rfl ?_
    refine p_iload 15 rfl rfl rfl ?_
    refine p_putfi (j := 6) 18 rfl rfl rfl (fun z => absurd z (by decide)) (tg_66 S2) rfl ?_
    refine p_nmh (fun y3 e3 => ?_)
    have S3 : Shape y3 := by rw [e3]; exact S2.svF ff_66_6 _
    refine p_ret rfl rfl ?_
    show Wp (d + 3) 0 0 M_X12_asksSign 24 [some (.inr (.inr 66)), some (.inl 46)] [] y3 _
    refine p_ret rfl rfl ?_
    -- leaf 2: answer [] h=y3 e3,e2
    refine K2 _ ⟨by rw [e3, e2]; exact ((p1.1.wide lukA_nmA).sv rfl _).sv rfl _, p1.2.1, by rw [e3, e2, sv_nf (by decide), sv_eq], by rw [e3, e2, sv_eq]; exact p1.2.2⟩ S3
theorem m_takesB {d : Nat} {h : PH} {q : PQ} (S : Shape h) (a : Int) (b : gv h 66 5 ≠ 0) (K : q (some (.inl 0)) h) : Wp (d + 3) 0 0 M_X12_takes 0 [some (.inr (.inr 66)), some (.inr (.inr a))] [] h q := by
  have J : Wp (d + 2) 0 0 M_X12_isHere 0 [some (.inr (.inr 66)), some (.inr (.inr a)), none, none] [] h (fun r h' => Wp (d + 3) 0 0 M_X12_takes 5 [some (.inr (.inr 66)), some (.inr (.inr a))] (r.toList ++ []) h' q) := by
    refine p_aload 1 rfl rfl rfl ?_
    refine p_getfi (j := 5) (z := gv h 66 5) 4 rfl rfl rfl (tg_66 S) rfl rfl ?_
    refine p_if_ne_t 28 rfl rfl (by omega) ?_
    refine p_const 29 rfl rfl ?_
    refine p_zret rfl rfl (by decide) ?_
    -- leaf 1: answer [.inl 0] h=h 
    show Wp (d + 3) 0 0 M_X12_takes 5 [some (.inr (.inr 66)), some (.inr (.inr a))] [.inl 0] h q
    refine p_if_ne_f 8 rfl rfl (by decide) ?_
    refine p_const 9 rfl rfl ?_
    refine p_zret rfl rfl (by decide) ?_
    exact K
  refine p_aload 1 rfl rfl rfl ?_
  refine p_aload 2 rfl rfl rfl ?_
  refine p_callv (le := [some (.inr (.inr 66)), some (.inr (.inr a)), none, none]) (as := [.inr (.inr 66), .inr (.inr a)]) (rest := []) 5 0 0 0 0 rfl rfl (Nat.le_of_ble_eq_true rfl) rfl (Nat.le_of_ble_eq_true rfl) rfl rfl (Nat.le_of_ble_eq_true rfl) rfl (Nat.le_of_ble_eq_true rfl) rfl (Nat.le_refl _) (Nat.le_refl _) rfl rfl (tg_66 S) ?_
  exact J

