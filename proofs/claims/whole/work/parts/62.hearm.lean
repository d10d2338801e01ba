/-! HEARS AND PASSES, the model's side -/
def hdP (last s : Int) (D : List Int) (u : LnS) : LnS := (Lq u, Ltl u, Lal u, Lfr u, Lgt u, Lga u, Lgo u, Llo u, if s = last then Lhd u ++ D else Lhd u)
theorem hdP_nil (last s : Int) (u : LnS) : hdP last s [] u = u := by
  obtain ⟨a, b, c, d, e, f, g, i, j⟩ := u
  have h2 : (if s = last then j ++ [] else j) = j := by rw [List.append_nil]; split <;> rfl
  show (a, b, c, d, e, f, g, i, (if s = last then j ++ [] else j)) = _
  rw [h2]
theorem LM.hear {h2 h' : PH} {last s x : Int} {D : List Int} {u : LnS} (X : LM h2 last (hdP last s D u)) (e : ∀ b i, 115 ≤ b ∧ b ≤ 123 → gv h' b i = gv h2 b i) (e71 : gv h' 66 71 = gv h2 66 71) (e70 : gv h' 66 70 = gv h2 66 70)
    (hl : s ≠ last → gv h' 66 81 = gv h2 66 81 ∧ ∀ i, gv h' 124 i = gv h2 124 i) (hy : s = last → gv h' 66 81 = gv h2 66 81 + 1 ∧ gv h' 124 (gv h2 66 81) = x ∧ ∀ i, i ≠ gv h2 66 81 → gv h' 124 i = gv h2 124 i) : LM h' last (hdP last s (D ++ [x]) u) := by
  obtain ⟨a, b, c, f, g⟩ := X
  have f : gv h2 66 81 = ((if s = last then Lhd u ++ D else Lhd u).length : Nat) := f
  have g : ∀ (j : Nat) w, (if s = last then Lhd u ++ D else Lhd u)[j]? = some w → gv h2 124 j = w := g
  refine ⟨⟨e71.trans a.1, e70.trans a.2⟩, fun i i0 i1 => ?_, fun i i0 i1 => ?_, ?_, ?_⟩
  · obtain ⟨y0, y1, y2, y3⟩ := b i i0 i1
    exact ⟨y0, (e 116 i (by omega)).trans y1, (e 117 i (by omega)).trans y2, fun j w hj => (e 115 _ (by omega)).trans (y3 j w hj)⟩
  · have y := c i i0 i1
    unfold CEM at y ⊢
    rw [e 118 i (by omega), e 119 i (by omega), e 120 i (by omega), e 121 i (by omega), e 122 i (by omega), e 123 i (by omega)]
    exact y
  · show gv h' 66 81 = ((if s = last then Lhd u ++ (D ++ [x]) else Lhd u).length : Nat)
    by_cases z : s = last
    · rw [if_pos z] at f ⊢
      rw [(hy z).1, f, ← List.append_assoc, List.length_append (bs := [x])]; rfl
    · rw [if_neg z] at f ⊢
      rw [(hl z).1, f]
  · show ∀ (j : Nat) w, (if s = last then Lhd u ++ (D ++ [x]) else Lhd u)[j]? = some w → gv h' 124 j = w
    by_cases z : s = last
    · rw [if_pos z] at f g ⊢
      obtain ⟨_, z1, z2⟩ := hy z
      intro j w hj
      rw [← List.append_assoc] at hj
      rcases snoc_get hj with ⟨j1, j2⟩ | ⟨j1, j2⟩
      · rw [z2 j (by omega)]; exact g j w j2
      · rw [j1, ← f, z1, j2]
    · rw [if_neg z] at g ⊢
      intro j w hj
      rw [(hl z).2]; exact g j w hj
theorem m_hears {d : Nat} {h : PH} {q : PQ} {a k last s t : Int} {u : LnS} {l : List Int} {h1 : PH} (R : BkR h a k) (F : FI h) (k0 : 0 ≤ k) (k200 : k ≤ 200) (S1 : Shape h1) (k1 : Keep lmA h h1) (X : LM h1 last u) (RM : RowsM h1 [l] 2) (ok : okl l) (l1 : 1 ≤ l.length) (hs : 1 ≤ s ∧ s ≤ last) (l9 : last ≤ 9) (ht : 0 ≤ t ∧ t < 1000) (g0 : 0 ≤ Lgt u s) (g1 : Lgt u s + l.length ≤ 240) (hh : ((Lhd u).length : Int) = Lgt u last) (hL : ((Lq u s).length : Int) ≤ Ltl u s) (hT : Ltl u s + l.length ≤ 240)
    (K : ∀ h', (Keep lmA h h' ∧ LM h' last (passL h k last s t l (hearL last s t l u))) → Shape h' → q none h') :
    Wp (d + 8) 0 0 M_X12_hears 0 [some (.inr (.inr 66)), some (.inl k), some (.inl s), some (.inl t), none] [] h1 q := by
  have l4 := ok.1
  have r102 : gv h1 102 0 = l.length := (RM.2.2.2.2.2 0 l rfl).1
  have r103 : ∀ j : Nat, j < 4 → gv h1 103 j = pad l j := by
    obtain ⟨_, p0, p1, p2, p3⟩ := RM.2.2.2.2.2 0 l rfl
    intro j hj
    rcases (show j = 0 ∨ j = 1 ∨ j = 2 ∨ j = 3 by omega) with rfl | rfl | rfl | rfl
    · exact p0
    · exact p1
    · exact p2
    · exact p3
  have J : ∀ (c n : Nat) (j : Int) (h2 : PH), j = n → n + c = l.length → Shape h2 → Keep lmA h h2 → LM h2 last (hdP last s (l.take n) u) → gv h2 66 62 = l.length → (∀ i : Nat, i < 4 → gv h2 103 i = pad l i) → (∀ (j : Nat) w, (l.take n)[j]? = some w → gv h2 109 j = w) →
      Wp (d + 8) 0 0 M_X12_hears 13 [some (.inr (.inr 66)), some (.inl k), some (.inl s), some (.inl t), some (.inl j)] [] h2 q := by
    intro c
    induction c with
    | zero =>
      intro n j h2 hj hn S2 k2 X2 b62 r3 al
      have nl : n = l.length := by omega
      subst nl
      rw [List.take_length] at X2 al
      have X20 := X2
      obtain ⟨⟨x1, _⟩, x2, x3, x4, x5⟩ := X2
      obtain ⟨e118, e119, e120, e121, e122, e123⟩ := x3 s (by omega) hs.2
      have e120 : gv h2 120 s = Lgt u s := e120
      have e123 : gv h2 123 s = Llo u s := e123
      refine p_iload 15 rfl rfl rfl ?_
      refine p_aload 16 rfl rfl rfl ?_
      refine p_getfi (j := 62) (z := (l.length : Int)) 19 rfl rfl rfl (tg_66 S2) rfl b62 ?_
      refine p_ic_ge_t 86 rfl rfl (by omega) ?_
      refine p_aload 87 rfl rfl rfl ?_
      refine p_getfr (j := 77) (z := 120) 90 rfl rfl rfl (tg_66 S2) rfl (fi_66_77 S2) ?_
      refine p_iload 91 rfl rfl rfl ?_
      refine p_dup2 92 rfl rfl nl_i nl_r ?_
      refine p_iald (w := 10) (z := (Lgt u s)) 93 rfl rfl (tg_120 S2) (ln_120 S2) (by omega) (by omega) e120 ?_
      refine p_aload 94 rfl rfl rfl ?_
      refine p_getfi (j := 62) (z := (l.length : Int)) 97 rfl rfl rfl (tg_66 S2) rfl b62 ?_
      refine p_iadd (z := (Lgt u s) + (l.length : Int)) 98 rfl rfl (w32_id ⟨(by omega), (by omega)⟩) ?_
      refine p_iast (w := 10) 99 rfl rfl (by decide) (tg_120 S2) (ln_120 S2) (by omega) (by omega) ?_
      refine p_nmh (fun y1 e1 => ?_)
      have S1 : Shape y1 := by rw [e1]; exact S2.svA fa_120 _ _
      have kp1 : Keep lmA h y1 := by rw [e1]; exact k2.sv rfl _
      refine p_aload 100 rfl rfl rfl ?_
      refine p_getfr (j := 78) (z := 121) 103 rfl rfl rfl (tg_66 S1) rfl (fi_66_78 S1) ?_
      refine p_iload 104 rfl rfl rfl ?_
      refine p_iload 105 rfl rfl rfl ?_
      refine p_iast (w := 10) 106 rfl rfl (by decide) (tg_121 S1) (ln_121 S1) (by omega) (by omega) ?_
      refine p_nmh (fun y2 e2 => ?_)
      have S2 : Shape y2 := by rw [e2]; exact S1.svA fa_121 _ _
      have kp2 : Keep lmA h y2 := by rw [e2]; exact kp1.sv rfl _
      have XH : LM y2 last (hearL last s t l u) := by
        refine X20.chg (s := s) (fun b i z => by rw [e2, sv_off (by omega), e1, sv_off (by omega)]) (fun i _ => by rw [e2, sv_ne (by decide), e1, sv_ne (by decide)]) (fun i _ _ => by rw [e2, sv_ne (by decide), e1, sv_ne (by decide)]) (fun x hx => ⟨rfl, rfl, rfl, rfl, rfl, up_ne hx, up_ne hx, rfl⟩) rfl (fun z => ?_) ?_
        · obtain ⟨y0, y1', y2', y3⟩ := x2 s (by omega) z
          exact ⟨y0, by rw [e2, sv_ne (by decide), e1, sv_ne (by decide)]; exact y1', by rw [e2, sv_ne (by decide), e1, sv_ne (by decide)]; exact y2', fun j w hj => by rw [e2, sv_ne (by decide), e1, sv_ne (by decide)]; exact y3 j w hj⟩
        · exact ⟨by rw [e2, sv_ne (by decide), e1, sv_ne (by decide)]; exact e118, fun z => by rw [e2, sv_ne (by decide), e1, sv_ne (by decide)]; exact e119 z, by rw [e2, sv_ne (by decide), e1, sv_eq]; exact (up_eq _ _ _).symm, by rw [e2, sv_eq]; exact (up_eq _ _ _).symm, by rw [e2, sv_ne (by decide), e1, sv_ne (by decide)]; exact e122, by rw [e2, sv_ne (by decide), e1, sv_ne (by decide)]; exact e123⟩
      refine p_iload 107 rfl rfl rfl ?_
      refine p_aload 108 rfl rfl rfl ?_
      refine p_getfi (j := 71) (z := last) 111 rfl rfl rfl (tg_66 S2) rfl (by rw [e2, sv_ne (by decide)]; rw [e1, sv_ne (by decide)]; exact x1) ?_
      refine p_ic_eq 114 123 rfl rfl rfl (fun c3 => ?_) (fun c3 => ?_)
      · skip
        refine p_ret rfl rfl ?_
        -- leaf 1: answer [] h=y2 e2,e1 kp2
        exact K _ ⟨kp2, by unfold passL; rw [if_neg (by omega)]; exact XH⟩ S2
      · skip
        refine p_aload 115 rfl rfl rfl ?_
        refine p_getfr (j := 80) (z := 123) 118 rfl rfl rfl (tg_66 S2) rfl (fi_66_80 S2) ?_
        refine p_iload 119 rfl rfl rfl ?_
        refine p_bald (w := 10) (z := (Llo u s)) 120 rfl rfl (Or.inr (tg_123 S2)) (ln_123 S2) (by omega) (by omega) (by rw [e2, sv_ne (by decide)]; rw [e1, sv_ne (by decide)]; exact e123) ?_
        refine p_if_eq 123 124 rfl rfl rfl (fun c4 => ?_) (fun c4 => ?_)
        · skip
          refine p_aload 125 rfl rfl rfl ?_
          refine p_iload 126 rfl rfl rfl ?_
          refine p_iload 127 rfl rfl rfl ?_
          refine p_iload 128 rfl rfl rfl ?_
          have kB := kp2.wide lmA_bkB
          refine p_callv (le := [some (.inr (.inr 66)), some (.inl k), some (.inl s), some (.inl t), none, none]) (as := [.inr (.inr 66), .inl k, .inl s, .inl t]) (rest := []) 131 0 0 0 0 rfl rfl (Nat.le_of_ble_eq_true rfl) rfl (Nat.le_of_ble_eq_true rfl) rfl rfl (Nat.le_of_ble_eq_true rfl) rfl (Nat.le_of_ble_eq_true rfl) rfl (Nat.le_refl _) (Nat.le_refl _) rfl rfl (tg_66 S2) ?_
          refine m_opensBook S2 k s t (R.kp kB) (F.kp kB) k0 k200 (by omega) ht (fun y5 p5 S5 => ?_)
          have kp5 : Keep lmA h y5 := kp2.trans (p5.1.wide moA_lmA)
          show Wp (d + 8) 0 0 M_X12_hears 131 [some (.inr (.inr 66)), some (.inl k), some (.inl s), some (.inl t), some (.inl j)] [] y5 _
          have kB5 := kp5.wide lmA_bkB
          have O5 := p5.2
          rw [zh_congr kB] at O5
          have hz := zh_in F ht.1 ht.2
          have hn5 : gv y5 66 62 = l.length := by rw [p5.1.1 66 62 rfl, e2, sv_ne (by decide), e1, sv_ne (by decide)]; exact b62
          have ids : ∀ i, 0 ≤ i → i < (l.length : Int) → gv y5 109 i = l.getD i.toNat 0 := fun i i0 i1 => by
            have y := al i.toNat _ (List.getElem?_eq_getElem (by omega))
            rw [Int.toNat_of_nonneg i0] at y
            rw [p5.1.1 109 i rfl, e2, sv_ne (by decide), e1, sv_ne (by decide), y, List.getD_eq_getElem?_getD, List.getElem?_eq_getElem (by omega)]; rfl
          refine p_aload 132 rfl rfl rfl ?_
          refine p_iload 133 rfl rfl rfl ?_
          refine p_callv (le := [some (.inr (.inr 66)), some (.inl s), none, none, none, none, none]) (as := [.inr (.inr 66), .inl s]) (rest := []) 136 0 0 0 0 rfl rfl (Nat.le_of_ble_eq_true rfl) rfl (Nat.le_of_ble_eq_true rfl) rfl rfl (Nat.le_of_ble_eq_true rfl) rfl (Nat.le_of_ble_eq_true rfl) rfl (Nat.le_refl _) (Nat.le_refl _) rfl rfl (tg_66 S5) ?_
          refine m_sends S5 s (R.kp kB5) k0 k200 O5 (F.kp kB5) (by omega) ht hz hn5 (by omega) (by omega) (fun r6 y6 p6 S6 => ?_)
          have kp6 : Keep lmA h y6 := kp5.trans (p6.1.wide msA_lmA)
          show Wp (d + 8) 0 0 M_X12_hears 136 [some (.inr (.inr 66)), some (.inl k), some (.inl s), some (.inl t), some (.inl j)] [.inl r6] y6 _
          have EB : bstF y5 k s t (zh h t) (fun i => gv y5 109 i) l.length (l.length : Int).toNat = lB h k s t l := by
            rw [bstF_congr kB5, Int.toNat_natCast]; exact bstF_ids ids _ (by omega)
          obtain ⟨k6, ce, er⟩ := p6
          rw [EB] at ce er
          have ok' := lB_ok (s := s) (t := t) (l := l) R
          have XH6 : LM y6 last (hearL last s t l u) := XH.kp (fun b i z => by rw [k6.1 b i (decide_eq_false (by omega)), p5.1.1 b i (decide_eq_false (by omega))])
          have hn6 : gv y6 66 62 = l.length := (k6.1 66 62 rfl).trans hn5
          obtain ⟨⟨z0, z0'⟩, tl6, z2, z3⟩ := XH6.2.1 s (by omega) (by omega)
          have tl6 : gv y6 116 s = Ltl u s := tl6
          have z2 : gv y6 117 s = Ltl u s - (Lq u s).length := z2
          have z3 : ∀ (j : Nat) w, (Lq u s)[j]? = some w → gv y6 115 (640 * s + (Ltl u s - (Lq u s).length + j)) = w := z3
          have CE6 := XH6.2.2.1 s (by omega) (by omega)
          refine p_if_eq 139 147 rfl rfl rfl (fun c7 => ?_) (fun c7 => ?_)
          · skip
            refine p_aload 148 rfl rfl rfl ?_
            refine p_getfr (j := 80) (z := 123) 151 rfl rfl rfl (tg_66 S6) rfl (fi_66_80 S6) ?_
            refine p_iload 152 rfl rfl rfl ?_
            refine p_const 153 rfl rfl ?_
            refine p_zast (w := 10) 154 rfl rfl (by decide) (tg_123 S6) (ln_123 S6) (by omega) (by omega) (by decide) ?_
            refine p_nmh (fun y8 e8 => ?_)
            have S8 : Shape y8 := by rw [e8]; exact S6.svA fa_123 _ _
            have kp8 : Keep lmA h y8 := by rw [e8]; exact kp6.sv rfl _
            refine p_ret rfl rfl ?_
            -- leaf 2: answer [] h=y8 e8 kp8
            refine K _ ⟨kp8, ?_⟩ S8
            have nb : ¬ (lB h k s t l 0).1 < 1000 := fun y => by rw [if_pos y] at er; omega
            unfold passL
            rw [if_pos ⟨by omega, show Llo u s = 0 by omega⟩, if_neg nb]
            refine XH6.chg (s := s) (fun b i z => by rw [e8, sv_off (by omega)]) (fun i _ => by rw [e8, sv_ne (by decide)]) (fun i _ _ => by rw [e8, sv_ne (by decide)]) (fun x hx => ⟨rfl, rfl, rfl, rfl, up_ne hx, rfl, rfl, rfl⟩) rfl (fun z => ⟨⟨z0, z0'⟩, by rw [e8, sv_ne (by decide)]; exact tl6, by rw [e8, sv_ne (by decide)]; exact z2, fun j w hj => by rw [e8, sv_ne (by decide)]; exact z3 j w hj⟩) ?_
            exact ⟨by rw [e8, sv_ne (by decide)]; exact CE6.1, fun z => by rw [e8, sv_ne (by decide)]; exact CE6.2.1 z, by rw [e8, sv_ne (by decide)]; exact CE6.2.2.1, by rw [e8, sv_ne (by decide)]; exact CE6.2.2.2.1, by rw [e8, sv_ne (by decide)]; exact CE6.2.2.2.2.1, by rw [e8, sv_eq]; exact (up_eq _ _ _).symm⟩
          · skip
            have b0 : (lB h k s t l 0).1 < 1000 := by by_cases w : (lB h k s t l 0).1 < 1000; exact w; rw [if_neg w] at er; exact absurd er c7
            have bi := lB_in R b0
            refine p_aload 140 rfl rfl rfl ?_
            refine p_iload 141 rfl rfl rfl ?_
            refine p_callv (le := [some (.inr (.inr 66)), some (.inl s), none]) (as := [.inr (.inr 66), .inl s]) (rest := []) 144 0 0 0 0 rfl rfl (Nat.le_of_ble_eq_true rfl) rfl (Nat.le_of_ble_eq_true rfl) rfl rfl (Nat.le_of_ble_eq_true rfl) rfl (Nat.le_of_ble_eq_true rfl) rfl (Nat.le_refl _) (Nat.le_refl _) rfl rfl (tg_66 S6) ?_
            refine m_queues S6 s ok' (by omega) (by omega) b0 (by omega) hn6 ce tl6 (by omega) (by omega) (fun y9 p9 S9 => ?_)
            have kp9 : Keep lmA h y9 := kp6.trans (p9.1.wide qA_lmA)
            show Wp (d + 8) 0 0 M_X12_hears 144 [some (.inr (.inr 66)), some (.inl k), some (.inl s), some (.inl t), some (.inl j)] [] y9 _
            refine p_goto 154 rfl rfl ?_
            refine p_ret rfl rfl ?_
            -- leaf 3: answer [] h=y9  kp9
            refine K _ ⟨kp9, ?_⟩ S9
            obtain ⟨k9, f116, f116', f115, w9⟩ := p9
            have hlen := lH_len R b0
            unfold passL
            rw [if_pos ⟨by omega, show Llo u s = 0 by omega⟩, if_pos b0]
            have f9 : ∀ b i, b ≠ 115 → b ≠ 116 → gv y9 b i = gv y6 b i := fun b i n1 n2 => k9.1 b i (decide_eq_false (by omega))
            refine XH6.chg (s := s) (fun b i z => ?_) (fun i hi => f115 i (by omega)) (fun i _ _ => f9 66 i (by decide) (by decide)) (fun x hx => ⟨up_ne hx, up_ne hx, rfl, rfl, rfl, rfl, rfl, rfl⟩) rfl (fun z => ?_) ?_
            · by_cases n : b = 116
              · rw [n]; exact f116' i (by omega)
              · exact f9 b i (by omega) n
            · show QM _ s (up (Lq u) s (Lq u s ++ lH h k s t l) s) (up (Ltl u) s (Ltl u s + (lB h k s t l 0).1) s)
              rw [up_eq, up_eq]
              have la : ((Lq u s ++ lH h k s t l).length : Int) = (Lq u s).length + (lB h k s t l 0).1 := by rw [List.length_append, ← hlen]; rfl
              refine ⟨⟨by omega, by omega⟩, f116, by rw [f9 117 s (by decide) (by decide), z2, la]; omega, fun j w hj => ?_⟩
              rw [la]
              by_cases y : j < (Lq u s).length
              · rw [List.getElem?_append_left y] at hj
                rw [show Ltl u s + (lB h k s t l 0).1 - ((Lq u s).length + (lB h k s t l 0).1) + (j : Int) = Ltl u s - (Lq u s).length + j by omega, f115 _ (Or.inl (by omega))]
                exact z3 j w hj
              · rw [List.getElem?_append_right (by omega)] at hj
                have y2' := w9 (j - (Lq u s).length) w (by rw [Int.toNat_natCast]; exact hj)
                rw [show 640 * s + (Ltl u s + (lB h k s t l 0).1 - ((Lq u s).length + (lB h k s t l 0).1) + (j : Int)) = 640 * s + Ltl u s + ((j - (Lq u s).length : Nat) : Int) by omega]
                exact y2'
            · exact ⟨(f9 118 s (by decide) (by decide)).trans CE6.1, fun z => (f9 119 s (by decide) (by decide)).trans (CE6.2.1 z), (f9 120 s (by decide) (by decide)).trans CE6.2.2.1, (f9 121 s (by decide) (by decide)).trans CE6.2.2.2.1, (f9 122 s (by decide) (by decide)).trans CE6.2.2.2.2.1, (f9 123 s (by decide) (by decide)).trans CE6.2.2.2.2.2⟩
        · skip
          refine p_ret rfl rfl ?_
          -- leaf 4: answer [] h=y2 e2,e1 kp2
          exact K _ ⟨kp2, by unfold passL; rw [if_neg (fun y => by have y2 : Llo u s = 0 := y.2; omega)]; exact XH⟩ S2
    | succ c ih =>
      intro n j h2 hj hn S2 k2 X2 b62 r3 al
      have X20 := X2
      obtain ⟨⟨x1, _⟩, x2, x3, x4, x5⟩ := X2
      have e103 : gv h2 103 j = pad l n := by rw [hj]; exact r3 n (by omega)
      refine p_iload 15 rfl rfl rfl ?_
      refine p_aload 16 rfl rfl rfl ?_
      refine p_getfi (j := 62) (z := (l.length : Int)) 19 rfl rfl rfl (tg_66 S2) rfl b62 ?_
      refine p_ic_ge_f 22 rfl rfl (by omega) ?_
      refine p_aload 23 rfl rfl rfl ?_
      refine p_getfr (j := 63) (z := 109) 26 rfl rfl rfl (tg_66 S2) rfl (fi_66_63 S2) ?_
      refine p_iload 28 rfl rfl rfl ?_
      refine p_aload 29 rfl rfl rfl ?_
      refine p_getfr (j := 54) (z := 103) 32 rfl rfl rfl (tg_66 S2) rfl (fi_66_54 S2) ?_
      refine p_iload 34 rfl rfl rfl ?_
      refine p_iald (w := 400) (z := (pad l n)) 35 rfl rfl (tg_103 S2) (ln_103 S2) (by omega) (by omega) e103 ?_
      refine p_iast (w := 12) 36 rfl rfl (by decide) (tg_109 S2) (ln_109 S2) (by omega) (by omega) ?_
      refine p_nmh (fun y1 e1 => ?_)
      have S1 : Shape y1 := by rw [e1]; exact S2.svA fa_109 _ _
      have kp1 : Keep lmA h y1 := by rw [e1]; exact k2.sv rfl _
      refine p_iload 37 rfl rfl rfl ?_
      refine p_aload 38 rfl rfl rfl ?_
      refine p_getfi (j := 71) (z := last) 41 rfl rfl rfl (tg_66 S1) rfl (by rw [e1, sv_ne (by decide)]; exact x1) ?_
      refine p_ic_ne 44 80 rfl rfl rfl (fun c2 => ?_) (fun c2 => ?_)
      · skip
        refine p_iinc (y := j + 1) (ls' := [some (.inr (.inr 66)), some (.inl k), some (.inl s), some (.inl t), some (.inl (j + 1))]) 83 rfl rfl rfl (w32_id ⟨(by omega), (by omega)⟩) rfl ?_
        refine p_goto 13 rfl rfl ?_
        -- leaf 1: loop 13 [some (.inr (.inr 66)), some (.inl k), some (.inl s), some (.inl t), some (.inl (j + 1))] st=[] h=y1 e1 kp1
        have tk : l.take (n + 1) = l.take n ++ [pad l n] := take_up (by omega)
        refine ih (n + 1) (j + 1) _ (by omega) (by omega) S1 kp1 ?_ (by rw [e1, sv_ne (by decide)]; exact b62) (fun i hi => by rw [e1, sv_ne (by decide)]; exact r3 i hi) (fun i w hi => ?_)
        · rw [tk]
          exact X20.hear (fun b i z => by rw [e1, sv_ne (by omega)]) (by rw [e1, sv_ne (by decide)]) (by rw [e1, sv_ne (by decide)]) (fun _ => ⟨by rw [e1, sv_ne (by decide)], fun i => by rw [e1, sv_ne (by decide)]⟩) (fun z => absurd z (by assumption))
        · rw [tk] at hi
          have tl : (l.take n).length = n := by rw [List.length_take]; omega
          rw [e1]
          rcases snoc_get hi with ⟨j1, j2⟩ | ⟨j1, j2⟩
          · rw [sv_nf (by omega)]; exact al i w j2
          · rw [j1, tl, j2, ← hj, sv_eq]
      · skip
        refine p_aload 45 rfl rfl rfl ?_
        refine p_getfi (j := 81) (z := gv h2 66 81) 48 rfl rfl rfl (tg_66 S1) rfl (by rw [e1, sv_ne (by decide)]) ?_
        have e81 : gv h2 66 81 = Lgt u s + n := by
          have y : gv h2 66 81 = ((if s = last then Lhd u ++ l.take n else Lhd u).length : Nat) := x4
          have sl : s = last := by omega
          rw [if_pos sl, List.length_append, List.length_take, Nat.min_eq_left (by omega)] at y
          rw [← sl] at hh
          rw [y]
          show ((_ + _ : Nat) : Int) = _
          omega
        refine p_const 51 rfl rfl ?_
        refine p_ic_ge_f 54 rfl rfl (by omega) ?_
        refine p_aload 55 rfl rfl rfl ?_
        refine p_getfr (j := 82) (z := 124) 58 rfl rfl rfl (tg_66 S1) rfl (fi_66_82 S1) ?_
        refine p_aload 59 rfl rfl rfl ?_
        refine p_getfi (j := 81) (z := gv h2 66 81) 62 rfl rfl rfl (tg_66 S1) rfl (by rw [e1, sv_ne (by decide)]) ?_
        refine p_aload 63 rfl rfl rfl ?_
        refine p_getfr (j := 54) (z := 103) 66 rfl rfl rfl (tg_66 S1) rfl (fi_66_54 S1) ?_
        refine p_iload 68 rfl rfl rfl ?_
        refine p_iald (w := 400) (z := (pad l n)) 69 rfl rfl (tg_103 S1) (ln_103 S1) (by omega) (by omega) (by rw [e1, sv_ne (by decide)]; exact e103) ?_
        refine p_iast (w := 640) 70 rfl rfl (by decide) (tg_124 S1) (ln_124 S1) (by omega) (by omega) ?_
        refine p_nmh (fun y3 e3 => ?_)
        have S3 : Shape y3 := by rw [e3]; exact S1.svA fa_124 _ _
        have kp3 : Keep lmA h y3 := by rw [e3]; exact kp1.sv rfl _
        refine p_aload 71 rfl rfl rfl ?_
        refine p_dup 72 rfl rfl nl_r ?_
        refine p_getfi (j := 81) (z := gv h2 66 81) 75 rfl rfl rfl (tg_66 S3) rfl (by rw [e3, sv_ne (by decide)]; rw [e1, sv_ne (by decide)]) ?_
        refine p_const 76 rfl rfl ?_
        refine p_iadd (z := (gv h2 66 81) + 1) 77 rfl rfl (w32_id ⟨(by omega), (by omega)⟩) ?_
        refine p_putfi (j := 81) 80 rfl rfl rfl (fun z => absurd z (by decide)) (tg_66 S3) rfl ?_
        refine p_nmh (fun y4 e4 => ?_)
        have S4 : Shape y4 := by rw [e4]; exact S3.svF ff_66_81 _
        have kp4 : Keep lmA h y4 := by rw [e4]; exact kp3.sv rfl _
        refine p_iinc (y := j + 1) (ls' := [some (.inr (.inr 66)), some (.inl k), some (.inl s), some (.inl t), some (.inl (j + 1))]) 83 rfl rfl rfl (w32_id ⟨(by omega), (by omega)⟩) rfl ?_
        refine p_goto 13 rfl rfl ?_
        -- leaf 2: loop 13 [some (.inr (.inr 66)), some (.inl k), some (.inl s), some (.inl t), some (.inl (j + 1))] st=[] h=y4 e4,e3,e1 kp4
        have tk : l.take (n + 1) = l.take n ++ [pad l n] := take_up (by omega)
        refine ih (n + 1) (j + 1) _ (by omega) (by omega) S4 kp4 ?_ (by rw [e4, sv_nf (by decide), e3, sv_ne (by decide), e1, sv_ne (by decide)]; exact b62) (fun i hi => by rw [e4, sv_ne (by decide), e3, sv_ne (by decide), e1, sv_ne (by decide)]; exact r3 i hi) (fun i w hi => ?_)
        · rw [tk]
          refine X20.hear (fun b i z => by rw [e4, sv_ne (by omega), e3, sv_ne (by omega), e1, sv_ne (by omega)]) (by rw [e4, sv_nf (by decide), e3, sv_ne (by decide), e1, sv_ne (by decide)]) (by rw [e4, sv_nf (by decide), e3, sv_ne (by decide), e1, sv_ne (by decide)]) (fun z => absurd (show s = last by omega) z) (fun _ => ⟨by rw [e4, sv_eq], by rw [e4, sv_ne (by decide), e3, sv_eq], fun i hi => by rw [e4, sv_ne (by decide), e3, sv_nf hi, e1, sv_ne (by decide)]⟩)
        · rw [tk] at hi
          have tl : (l.take n).length = n := by rw [List.length_take]; omega
          rw [e4, sv_ne (by decide), e3, sv_ne (by decide), e1]
          rcases snoc_get hi with ⟨j1, j2⟩ | ⟨j1, j2⟩
          · rw [sv_nf (by omega)]; exact al i w j2
          · rw [j1, tl, j2, ← hj, sv_eq]
  refine p_aload 1 rfl rfl rfl ?_
  refine p_aload 2 rfl rfl rfl ?_
  refine p_getfr (j := 53) (z := 102) 5 rfl rfl rfl (tg_66 S1) rfl (fi_66_53 S1) ?_
  refine p_const 6 rfl rfl ?_
  refine p_iald (w := 100) (z := (l.length : Int)) 7 rfl rfl (tg_102 S1) (ln_102 S1) (by decide) (by decide) r102 ?_
  refine p_putfi (j := 62) 10 rfl rfl rfl (fun z => absurd z (by decide)) (tg_66 S1) rfl ?_
  refine p_nmh (fun y1 e1 => ?_)
  have S1 : Shape y1 := by rw [e1]; exact S1.svF ff_66_62 _
  have kp1 : Keep lmA h y1 := by rw [e1]; exact k1.sv rfl _
  refine p_const 11 rfl rfl ?_
  refine p_istore (ls' := [some (.inr (.inr 66)), some (.inl k), some (.inl s), some (.inl t), some (.inl 0)]) 13 rfl rfl (Nat.le_of_ble_eq_true rfl) rfl ?_
  -- leaf 1: loop 13 [some (.inr (.inr 66)), some (.inl k), some (.inl s), some (.inl t), some (.inl 0)] st=[] h=y1 e1 kp1
  exact J l.length 0 0 _ rfl (by omega) S1 kp1 (by rw [List.take_zero, hdP_nil]; exact X.kp (fun b i z => by rw [e1, sv_off (by omega)])) (by rw [e1, sv_eq]) (fun i hi => by rw [e1, sv_ne (by decide)]; exact r103 i hi) (fun j w hj => by rw [List.take_zero] at hj; cases hj)
theorem m_passes {d : Nat} {h : PH} {q : PQ} {a k last st s t : Int} {u : LnS} {h1 : PH} (R : BkR h a k) (F : FI h) (k0 : 0 ≤ k) (k200 : k ≤ 200) (S1 : Shape h1) (k1 : Keep lmA h h1) (X : LM h1 last u) (L : LI last st s t u) (hs : 0 ≤ s ∧ s < last) (l9 : last ≤ 9) (ht : 0 ≤ t ∧ t < 1000) (t3 : t < st + 300)
    (K : ∀ h', (Keep lmA h h' ∧ LM h' last (lstp h k last s t u)) → Shape h' → q none h') :
    Wp (d + 9) 0 0 M_X12_passes 0 [some (.inr (.inr 66)), some (.inl k), some (.inl s), some (.inl t)] [] h1 q := by
  have X0 := X
  obtain ⟨X1, X2, X3, X4, X5⟩ := X
  obtain ⟨⟨q0, q0'⟩, q1, q2, q3⟩ := X2 s hs.1 hs.2
  obtain ⟨e118, e119, e120, e121, e122, e123⟩ := X3 s hs.1 (by omega)
  have Lb := L.2.1 s hs.1 (by omega)
  have Lb1 := L.2.1 (s + 1) (by omega) (by omega)
  have La := (L.1 s hs.1 hs.2).1
  have Lw := (L.1 s hs.1 hs.2).2
  have L' := L.step R F hs.1 hs.2 l9
  have kB := k1.wide lmA_bkB
  have t1 : tau s t s = t := if_neg (by omega)
  rw [t1] at La Lb
  have zhi := zh_in F ht.1 ht.2
  by_cases c0 : Lal u s = 0
  · rw [if_pos c0] at e118
    cases hq : Lq u s with
    | nil =>
      have q2' : gv h1 117 s = Ltl u s := by rw [q2, hq]; show Ltl u s - 0 = _; omega
      refine p_aload 1 rfl rfl rfl ?_
      refine p_getfr (j := 75) (z := 118) 4 rfl rfl rfl (tg_66 S1) rfl (fi_66_75 S1) ?_
      refine p_iload 5 rfl rfl rfl ?_
      refine p_iald (w := 10) (z := (-1)) 6 rfl rfl (tg_118 S1) (ln_118 S1) (by omega) (by omega) e118 ?_
      refine p_const 7 rfl rfl ?_
      refine p_ic_ne_f 10 rfl rfl (by decide) ?_
      refine p_aload 11 rfl rfl rfl ?_
      refine p_getfr (j := 74) (z := 117) 14 rfl rfl rfl (tg_66 S1) rfl (fi_66_74 S1) ?_
      refine p_iload 15 rfl rfl rfl ?_
      refine p_iald (w := 10) (z := (Ltl u s)) 16 rfl rfl (tg_117 S1) (ln_117 S1) (by omega) (by omega) q2' ?_
      refine p_aload 17 rfl rfl rfl ?_
      refine p_getfr (j := 73) (z := 116) 20 rfl rfl rfl (tg_66 S1) rfl (fi_66_73 S1) ?_
      refine p_iload 21 rfl rfl rfl ?_
      refine p_iald (w := 10) (z := (Ltl u s)) 22 rfl rfl (tg_116 S1) (ln_116 S1) (by omega) (by omega) q1 ?_
      refine p_ic_ne_f 25 rfl rfl (by omega) ?_
      refine p_ret rfl rfl ?_
      -- leaf 1: answer [] h=h1 
      exact K _ ⟨k1, by rw [lstp_none c0 hq]; exact X0⟩ S1
    | cons w r =>
      have lq : ((Lq u s).length : Int) = r.length + 1 := by rw [hq]; rfl
      have w0 : gv h1 115 (640 * s + (Ltl u s - (Lq u s).length)) = w := by
        have y := q3 0 w (by rw [hq]; rfl)
        rw [show Ltl u s - ((Lq u s).length : Int) + ((0 : Nat) : Int) = Ltl u s - ((Lq u s).length : Int) by omega] at y; exact y
      have gw : isHo w := Lw w (by rw [hq]; exact List.mem_cons_self)
      have rb := rl_in w
      refine p_aload 1 rfl rfl rfl ?_
      refine p_getfr (j := 75) (z := 118) 4 rfl rfl rfl (tg_66 S1) rfl (fi_66_75 S1) ?_
      refine p_iload 5 rfl rfl rfl ?_
      refine p_iald (w := 10) (z := (-1)) 6 rfl rfl (tg_118 S1) (ln_118 S1) (by omega) (by omega) e118 ?_
      refine p_const 7 rfl rfl ?_
      refine p_ic_ne_f 10 rfl rfl (by decide) ?_
      refine p_aload 11 rfl rfl rfl ?_
      refine p_getfr (j := 74) (z := 117) 14 rfl rfl rfl (tg_66 S1) rfl (fi_66_74 S1) ?_
      refine p_iload 15 rfl rfl rfl ?_
      refine p_iald (w := 10) (z := (Ltl u s - (Lq u s).length)) 16 rfl rfl (tg_117 S1) (ln_117 S1) (by omega) (by omega) q2 ?_
      refine p_aload 17 rfl rfl rfl ?_
      refine p_getfr (j := 73) (z := 116) 20 rfl rfl rfl (tg_66 S1) rfl (fi_66_73 S1) ?_
      refine p_iload 21 rfl rfl rfl ?_
      refine p_iald (w := 10) (z := (Ltl u s)) 22 rfl rfl (tg_116 S1) (ln_116 S1) (by omega) (by omega) q1 ?_
      refine p_ic_ne_t 26 rfl rfl (by omega) ?_
      refine p_aload 27 rfl rfl rfl ?_
      refine p_getfr (j := 75) (z := 118) 30 rfl rfl rfl (tg_66 S1) rfl (fi_66_75 S1) ?_
      refine p_iload 31 rfl rfl rfl ?_
      refine p_aload 32 rfl rfl rfl ?_
      refine p_getfr (j := 72) (z := 115) 35 rfl rfl rfl (tg_66 S1) rfl (fi_66_72 S1) ?_
      refine p_const 38 rfl rfl ?_
      refine p_iload 39 rfl rfl rfl ?_
      refine p_imul (z := 640 * s) 40 rfl rfl (w32_id ⟨(by omega), (by omega)⟩) ?_
      refine p_aload 41 rfl rfl rfl ?_
      refine p_getfr (j := 74) (z := 117) 44 rfl rfl rfl (tg_66 S1) rfl (fi_66_74 S1) ?_
      refine p_iload 45 rfl rfl rfl ?_
      refine p_iald (w := 10) (z := (Ltl u s - (Lq u s).length)) 46 rfl rfl (tg_117 S1) (ln_117 S1) (by omega) (by omega) q2 ?_
      refine p_iadd (z := (640 * s) + (Ltl u s - (Lq u s).length)) 47 rfl rfl (w32_id ⟨(by omega), (by omega)⟩) ?_
      refine p_iald (w := 6400) (z := gv h1 115 ((640 * s) + (Ltl u s - (Lq u s).length))) 48 rfl rfl (tg_115 S1) (ln_115 S1) (by omega) (by omega) rfl ?_
      refine p_iast (w := 10) 49 rfl rfl (by decide) (tg_118 S1) (ln_118 S1) (by omega) (by omega) ?_
      refine p_nmh (fun y1 e1 => ?_)
      have S1 : Shape y1 := by rw [e1]; exact S1.svA fa_118 _ _
      have kp1 : Keep lmA h y1 := by rw [e1]; exact k1.sv rfl _
      refine p_aload 50 rfl rfl rfl ?_
      refine p_getfr (j := 74) (z := 117) 53 rfl rfl rfl (tg_66 S1) rfl (fi_66_74 S1) ?_
      refine p_iload 54 rfl rfl rfl ?_
      refine p_dup2 55 rfl rfl nl_i nl_r ?_
      refine p_iald (w := 10) (z := (Ltl u s - (Lq u s).length)) 56 rfl rfl (tg_117 S1) (ln_117 S1) (by omega) (by omega) (by rw [e1, sv_ne (by decide)]; exact q2) ?_
      refine p_const 57 rfl rfl ?_
      refine p_iadd (z := (Ltl u s - (Lq u s).length) + 1) 58 rfl rfl (w32_id ⟨(by omega), (by omega)⟩) ?_
      refine p_iast (w := 10) 59 rfl rfl (by decide) (tg_117 S1) (ln_117 S1) (by omega) (by omega) ?_
      refine p_nmh (fun y2 e2 => ?_)
      have S2 : Shape y2 := by rw [e2]; exact S1.svA fa_117 _ _
      have kp2 : Keep lmA h y2 := by rw [e2]; exact kp1.sv rfl _
      refine p_aload 60 rfl rfl rfl ?_
      refine p_getfr (j := 76) (z := 119) 63 rfl rfl rfl (tg_66 S2) rfl (fi_66_76 S2) ?_
      refine p_iload 64 rfl rfl rfl ?_
      refine p_iload 65 rfl rfl rfl ?_
      refine p_aload 66 rfl rfl rfl ?_
      refine p_getfr (j := 75) (z := 118) 69 rfl rfl rfl (tg_66 S2) rfl (fi_66_75 S2) ?_
      refine p_iload 70 rfl rfl rfl ?_
      refine p_iald (w := 10) (z := gv h1 115 ((640 * s) + (Ltl u s - (Lq u s).length))) 71 rfl rfl (tg_118 S2) (ln_118 S2) (by omega) (by omega) (by rw [e2, sv_ne (by decide)]; rw [e1]; exact sv_eq _ _ _ _) ?_
      have rb' := rl_in (gv h1 115 ((640 * s) + (Ltl u s - (Lq u s).length)))
      refine p_calls (le := [some (.inl (gv h1 115 ((640 * s) + (Ltl u s - (Lq u s).length))))]) (as := [.inl (gv h1 115 ((640 * s) + (Ltl u s - (Lq u s).length)))]) (rest := [.inl t, .inl s, .inr (.inr 119)]) 74 0 0 0 0 rfl rfl (Nat.le_of_ble_eq_true rfl) rfl (Nat.le_of_ble_eq_true rfl) rfl rfl (Nat.le_of_ble_eq_true rfl) rfl (Nat.le_of_ble_eq_true rfl) rfl (Nat.le_refl _) (Nat.le_refl _) rfl rfl ?_
      refine m_signsOf S2 (gv h1 115 ((640 * s) + (Ltl u s - (Lq u s).length))) (by rw [w0]; exact gw) ?_
      show Wp (d + 9) 0 0 M_X12_passes 74 [some (.inr (.inr 66)), some (.inl k), some (.inl s), some (.inl t)] [.inl (rl (gv h1 115 ((640 * s) + (Ltl u s - (Lq u s).length)))), .inl t, .inl s, .inr (.inr 119)] y2 _
      refine p_iadd (z := t + (rl (gv h1 115 ((640 * s) + (Ltl u s - (Lq u s).length))))) 75 rfl rfl (w32_id ⟨(by omega), (by omega)⟩) ?_
      refine p_iast (w := 10) 76 rfl rfl (by decide) (tg_119 S2) (ln_119 S2) (by omega) (by omega) ?_
      refine p_nmh (fun y4 e4 => ?_)
      have S4 : Shape y4 := by rw [e4]; exact S2.svA fa_119 _ _
      have kp4 : Keep lmA h y4 := by rw [e4]; exact kp2.sv rfl _
      refine p_ret rfl rfl ?_
      -- leaf 1: answer [] h=y4 e4,e2,e1 kp4
      rw [w0] at e1 e4
      refine K _ ⟨kp4, ?_⟩ S4
      rw [lstp_bend c0 hq]
      have wp := gw.pos
      refine X0.chg (s := s) (fun b i z => by rw [e4, sv_off (by omega), e2, sv_off (by omega), e1, sv_off (by omega)]) (fun i _ => by rw [e4, sv_ne (by decide), e2, sv_ne (by decide), e1, sv_ne (by decide)]) (fun i _ _ => by rw [e4, sv_ne (by decide), e2, sv_ne (by decide), e1, sv_ne (by decide)]) (fun x hx => ⟨up_ne hx, rfl, up_ne hx, up_ne hx, rfl, rfl, rfl, rfl⟩) rfl (fun _ => ?_) ?_
      · show QM _ s (up (Lq u) s r s) (Ltl u s)
        rw [up_eq]
        refine ⟨⟨by omega, q0'⟩, by rw [e4, sv_ne (by decide), e2, sv_ne (by decide), e1, sv_ne (by decide)]; exact q1, by rw [e4, sv_ne (by decide), e2, sv_eq]; omega, fun j w' hj => ?_⟩
        have y := q3 (j + 1) w' (by rw [hq]; exact hj)
        rw [e4, sv_ne (by decide), e2, sv_ne (by decide), e1, sv_ne (by decide)]
        rw [show Ltl u s - ((Lq u s).length : Int) + ((j + 1 : Nat) : Int) = Ltl u s - (r.length : Int) + (j : Int) by omega] at y; exact y
      · show gv _ 118 s = (if up (Lal u) s w s = 0 then -1 else up (Lal u) s w s) ∧ (up (Lal u) s w s ≠ 0 → gv _ 119 s = up (Lfr u) s (t + rl w) s) ∧ gv _ 120 s = Lgt u s ∧ gv _ 121 s = Lga u s ∧ gv _ 122 s = Lgo u s ∧ gv _ 123 s = Llo u s
        rw [up_eq, up_eq, if_neg (by omega)]
        exact ⟨by rw [e4, sv_ne (by decide), e2, sv_ne (by decide), e1, sv_eq], fun _ => by rw [e4, sv_eq], by rw [e4, sv_ne (by decide), e2, sv_ne (by decide), e1, sv_ne (by decide)]; exact e120, by rw [e4, sv_ne (by decide), e2, sv_ne (by decide), e1, sv_ne (by decide)]; exact e121, by rw [e4, sv_ne (by decide), e2, sv_ne (by decide), e1, sv_ne (by decide)]; exact e122, by rw [e4, sv_ne (by decide), e2, sv_ne (by decide), e1, sv_ne (by decide)]; exact e123⟩
  · rw [if_neg c0] at e118
    have e119 := e119 c0
    have La' : isHo (Lal u s) ∧ st ≤ Lfr u s - rl (Lal u s) ∧ Lfr u s - rl (Lal u s) < t ∧ t ≤ Lfr u s + 19 := by
      rcases La with ⟨b, _⟩ | b
      · exact absurd b c0
      · exact ⟨b.1, b.2.1, b.2.2.1, b.2.2.2.1⟩
    obtain ⟨g, La'⟩ := La'
    have gp := g.pos
    have rb := rl_in (Lal u s)
    refine p_aload 1 rfl rfl rfl ?_
    refine p_getfr (j := 75) (z := 118) 4 rfl rfl rfl (tg_66 S1) rfl (fi_66_75 S1) ?_
    refine p_iload 5 rfl rfl rfl ?_
    refine p_iald (w := 10) (z := gv h1 118 s) 6 rfl rfl (tg_118 S1) (ln_118 S1) (by omega) (by omega) rfl ?_
    refine p_const 7 rfl rfl ?_
    refine p_ic_ne_t 77 rfl rfl (by omega) ?_
    refine p_iload 78 rfl rfl rfl ?_
    refine p_aload 79 rfl rfl rfl ?_
    refine p_getfr (j := 76) (z := 119) 82 rfl rfl rfl (tg_66 S1) rfl (fi_66_76 S1) ?_
    refine p_iload 83 rfl rfl rfl ?_
    refine p_iald (w := 10) (z := gv h1 119 s) 84 rfl rfl (tg_119 S1) (ln_119 S1) (by omega) (by omega) rfl ?_
    refine p_ic_ge 87 88 rfl rfl rfl (fun c1 => ?_) (fun c1 => ?_)
    · skip
      refine p_aload 89 rfl rfl rfl ?_
      refine p_iload 90 rfl rfl rfl ?_
      refine p_iload 91 rfl rfl rfl ?_
      refine p_iload 92 rfl rfl rfl ?_
      refine p_callv (le := [some (.inr (.inr 66)), some (.inl k), some (.inl s), some (.inl t), none, none]) (as := [.inr (.inr 66), .inl k, .inl s, .inl t]) (rest := []) 95 0 0 0 0 rfl rfl (Nat.le_of_ble_eq_true rfl) rfl (Nat.le_of_ble_eq_true rfl) rfl rfl (Nat.le_of_ble_eq_true rfl) rfl (Nat.le_of_ble_eq_true rfl) rfl (Nat.le_refl _) (Nat.le_refl _) rfl rfl (tg_66 S1) ?_
      refine m_opensBook S1 k s t (R.kp kB) (F.kp kB) k0 k200 (by omega) ht (fun y2 p2 S2 => ?_)
      have kp2 : Keep lmA h y2 := k1.trans (p2.1.wide moA_lmA)
      show Wp (d + 9) 0 0 M_X12_passes 95 [some (.inr (.inr 66)), some (.inl k), some (.inl s), some (.inl t)] [] y2 _
      have f118 : gv y2 118 s = Lal u s := (p2.1.1 118 s rfl).trans e118
      have O2 := p2.2
      rw [zh_congr kB] at O2
      have kB2 := kp2.wide lmA_bkB
      have R2 := R.kp kB2
      have n2 := R2.1
      have n40 := R2.2.1
      refine p_aload 96 rfl rfl rfl ?_
      refine p_aload 97 rfl rfl rfl ?_
      refine p_getfr (j := 75) (z := 118) 100 rfl rfl rfl (tg_66 S2) rfl (fi_66_75 S2) ?_
      refine p_iload 101 rfl rfl rfl ?_
      refine p_iald (w := 10) (z := (Lal u s)) 102 rfl rfl (tg_118 S2) (ln_118 S2) (by omega) (by omega) f118 ?_
      refine p_aload 103 rfl rfl rfl ?_
      refine p_iload 104 rfl rfl rfl ?_
      refine p_iload 105 rfl rfl rfl ?_
      refine p_callv (le := [some (.inr (.inr 66)), some (.inl s), some (.inl t)]) (as := [.inr (.inr 66), .inl s, .inl t]) (rest := [.inl (Lal u s), .inr (.inr 66)]) 108 0 0 0 0 rfl rfl (Nat.le_of_ble_eq_true rfl) rfl (Nat.le_of_ble_eq_true rfl) rfl rfl (Nat.le_of_ble_eq_true rfl) rfl (Nat.le_of_ble_eq_true rfl) rfl (Nat.le_refl _) (Nat.le_refl _) rfl rfl (tg_66 S2) ?_
      refine m_dimAt S2 s t (F.kp (kp2.wide lmA_bkB)) (by omega) ht ?_
      show Wp (d + 9) 0 0 M_X12_passes 108 [some (.inr (.inr 66)), some (.inl k), some (.inl s), some (.inl t)] [.inl (dmF y2 s t), .inl (Lal u s), .inr (.inr 66)] y2 _
      refine p_const 109 rfl rfl ?_
      refine p_callv (le := [some (.inr (.inr 66)), some (.inl (Lal u s)), some (.inl (dmF y2 s t)), some (.inl 2), none, none, none, none, none, none, none]) (as := [.inr (.inr 66), .inl (Lal u s), .inl (dmF y2 s t), .inl 2]) (rest := []) 112 0 0 0 0 rfl rfl (Nat.le_of_ble_eq_true rfl) rfl (Nat.le_of_ble_eq_true rfl) rfl rfl (Nat.le_of_ble_eq_true rfl) rfl (Nat.le_of_ble_eq_true rfl) rfl (Nat.le_refl _) (Nat.le_refl _) rfl rfl (tg_66 S2) ?_
      refine m_sees S2 (Lal u s) (dmF y2 s t) 2 (lim := 2) rfl (by decide) g O2 k0 k200 (by omega) (by omega) (R2.tvs (by omega) ht zhi) (F.kp kB2) (fun y4 p4 S4 => ?_)
      have kp4 : Keep lmA h y4 := kp2.trans (p4.1.wide seA_lmA)
      show Wp (d + 9) 0 0 M_X12_passes 112 [some (.inr (.inr 66)), some (.inl k), some (.inl s), some (.inl t)] [] y4 _
      obtain ⟨k4, M', r4, x4⟩ := p4
      rw [SQs_eq kB2] at x4
      have o4 : ∀ b i, (115 ≤ b ∧ b ≤ 124) ∨ (b = 66 ∧ 70 ≤ i ∧ i ≤ 81) → gv y4 b i = gv h1 b i := fun b i z => by rw [k4.1 b i (decide_eq_false (by omega)), p2.1.1 b i (decide_eq_false (by omega))]
      have f119 : gv y4 119 s = Lfr u s := (o4 119 s (by omega)).trans e119
      have f122 : gv y4 122 s = Lgo u s := (o4 122 s (by omega)).trans e122
      have f116 : gv y4 116 s = Ltl u s := (o4 116 s (by omega)).trans q1
      have r9 := r4.1
      have c1' : ¬ t < Lfr u s := by omega
      refine p_aload 113 rfl rfl rfl ?_
      refine p_getfi (j := 52) (z := gv y4 66 52) 116 rfl rfl rfl (tg_66 S4) rfl rfl ?_
      refine p_const 117 rfl rfl ?_
      refine p_ic_ne 120 149 rfl rfl rfl (fun c5 => ?_) (fun c5 => ?_)
      · skip
        refine p_iload 150 rfl rfl rfl ?_
        refine p_aload 151 rfl rfl rfl ?_
        refine p_getfr (j := 76) (z := 119) 154 rfl rfl rfl (tg_66 S4) rfl (fi_66_76 S4) ?_
        refine p_iload 155 rfl rfl rfl ?_
        refine p_iald (w := 10) (z := (Lfr u s)) 156 rfl rfl (tg_119 S4) (ln_119 S4) (by omega) (by omega) f119 ?_
        refine p_isub (z := t - (Lfr u s)) 157 rfl rfl (w32_id ⟨(by omega), (by omega)⟩) ?_
        refine p_const 159 rfl rfl ?_
        refine p_ic_ne 162 188 rfl rfl rfl (fun c6 => ?_) (fun c6 => ?_)
        · skip
          refine p_ret rfl rfl ?_
          -- leaf 1: answer [] h=y4  kp4
          exact K _ ⟨kp4, by rw [lstp_stay c0 c1' (x4.not_only (by omega)) (by omega)]; exact X0.kp o4⟩ S4
        · skip
          refine p_aload 163 rfl rfl rfl ?_
          refine p_getfr (j := 75) (z := 118) 166 rfl rfl rfl (tg_66 S4) rfl (fi_66_75 S4) ?_
          refine p_iload 167 rfl rfl rfl ?_
          refine p_const 168 rfl rfl ?_
          refine p_iast (w := 10) 169 rfl rfl (by decide) (tg_118 S4) (ln_118 S4) (by omega) (by omega) ?_
          refine p_nmh (fun y7 e7 => ?_)
          have S7 : Shape y7 := by rw [e7]; exact S4.svA fa_118 _ _
          have kp7 : Keep lmA h y7 := by rw [e7]; exact kp4.sv rfl _
          refine p_aload 170 rfl rfl rfl ?_
          refine p_getfr (j := 74) (z := 117) 173 rfl rfl rfl (tg_66 S7) rfl (fi_66_74 S7) ?_
          refine p_iload 174 rfl rfl rfl ?_
          refine p_aload 175 rfl rfl rfl ?_
          refine p_getfr (j := 73) (z := 116) 178 rfl rfl rfl (tg_66 S7) rfl (fi_66_73 S7) ?_
          refine p_iload 179 rfl rfl rfl ?_
          refine p_iald (w := 10) (z := (Ltl u s)) 180 rfl rfl (tg_116 S7) (ln_116 S7) (by omega) (by omega) (by rw [e7, sv_ne (by decide)]; exact f116) ?_
          refine p_iast (w := 10) 181 rfl rfl (by decide) (tg_117 S7) (ln_117 S7) (by omega) (by omega) ?_
          refine p_nmh (fun y8 e8 => ?_)
          have S8 : Shape y8 := by rw [e8]; exact S7.svA fa_117 _ _
          have kp8 : Keep lmA h y8 := by rw [e8]; exact kp7.sv rfl _
          refine p_aload 182 rfl rfl rfl ?_
          refine p_getfr (j := 80) (z := 123) 185 rfl rfl rfl (tg_66 S8) rfl (fi_66_80 S8) ?_
          refine p_iload 186 rfl rfl rfl ?_
          refine p_const 187 rfl rfl ?_
          refine p_zast (w := 10) 188 rfl rfl (by decide) (tg_123 S8) (ln_123 S8) (by omega) (by omega) (by decide) ?_
          refine p_nmh (fun y9 e9 => ?_)
          have S9 : Shape y9 := by rw [e9]; exact S8.svA fa_123 _ _
          have kp9 : Keep lmA h y9 := by rw [e9]; exact kp8.sv rfl _
          refine p_ret rfl rfl ?_
          -- leaf 2: answer [] h=y9 e9,e8,e7 kp9
          refine K _ ⟨kp9, ?_⟩ S9
          rw [lstp_lose c0 c1' (x4.not_only (by omega)) (by omega)]
          refine X0.chg (s := s) (fun b i z => by rw [e9, sv_off (by omega), e8, sv_off (by omega), e7, sv_off (by omega)]; exact o4 b i (by omega)) (fun i _ => by rw [e9, sv_ne (by decide), e8, sv_ne (by decide), e7, sv_ne (by decide)]; exact o4 115 i (by omega)) (fun i _ _ => by rw [e9, sv_ne (by decide), e8, sv_ne (by decide), e7, sv_ne (by decide)]; exact o4 66 i (by omega)) (fun x hx => ⟨up_ne hx, rfl, up_ne hx, rfl, up_ne hx, rfl, rfl, rfl⟩) rfl (fun _ => ?_) ?_
          · show QM _ s (up (Lq u) s [] s) (Ltl u s)
            rw [up_eq]
            refine ⟨⟨show (0 : Int) ≤ Ltl u s by omega, q0'⟩, by rw [e9, sv_ne (by decide), e8, sv_ne (by decide), e7, sv_ne (by decide)]; exact f116, by rw [e9, sv_ne (by decide), e8, sv_eq]; show Ltl u s = Ltl u s - 0; omega, fun j w hj => by cases hj⟩
          · show gv _ 118 s = (if up (Lal u) s 0 s = 0 then -1 else up (Lal u) s 0 s) ∧ (up (Lal u) s 0 s ≠ 0 → gv _ 119 s = Lfr u s) ∧ gv _ 120 s = Lgt u s ∧ gv _ 121 s = Lga u s ∧ gv _ 122 s = Lgo u s ∧ gv _ 123 s = up (Llo u) s 1 s
            rw [up_eq, up_eq, if_pos rfl]
            exact ⟨by rw [e9, sv_ne (by decide), e8, sv_ne (by decide), e7, sv_eq], fun z => absurd rfl z, by rw [e9, sv_ne (by decide), e8, sv_ne (by decide), e7, sv_ne (by decide), o4 120 s (by omega)]; exact e120, by rw [e9, sv_ne (by decide), e8, sv_ne (by decide), e7, sv_ne (by decide), o4 121 s (by omega)]; exact e121, by rw [e9, sv_ne (by decide), e8, sv_ne (by decide), e7, sv_ne (by decide)]; exact f122, by rw [e9, sv_eq]⟩
      · skip
        obtain ⟨l, el⟩ := len_one (L := M') (by omega)
        subst el
        have o := x4.one_only
        obtain ⟨ok, l1, lr⟩ := SeenQ.leng g (fun c id y => y.in R.2.1) ((o l).2 rfl)
        have l4 := ok.1
        have g0 : 0 ≤ Lgt (readL s u) (s + 1) := Lb1.1
        have g1 : Lgt (readL s u) (s + 1) + l.length ≤ 240 := by
          have y := (L'.gt240 (by omega) t3 (s + 1) (by omega) (by omega)).2
          rw [lstp_read c0 c1' o, passL_gt] at y
          have y : up (Lgt u) (s + 1) (Lgt u (s + 1) + l.length) (s + 1) ≤ 240 := y
          rw [up_eq] at y; exact y
        have g1' : Lgt u (s + 1) + l.length ≤ 240 := g1
        have tlg : Ltl u (s + 1) ≤ Lgt u (s + 1) := by have y := Lb1.2.1; rw [if_neg (by omega)] at y; exact y
        have hL : ((Lq (readL s u) (s + 1)).length : Int) ≤ Ltl (readL s u) (s + 1) := Lb1.2.2.1
        have hT : Ltl (readL s u) (s + 1) + l.length ≤ 240 := by show Ltl u (s + 1) + l.length ≤ 240; omega
        refine p_aload 121 rfl rfl rfl ?_
        refine p_getfr (j := 75) (z := 118) 124 rfl rfl rfl (tg_66 S4) rfl (fi_66_75 S4) ?_
        refine p_iload 125 rfl rfl rfl ?_
        refine p_const 126 rfl rfl ?_
        refine p_iast (w := 10) 127 rfl rfl (by decide) (tg_118 S4) (ln_118 S4) (by omega) (by omega) ?_
        refine p_nmh (fun y10 e10 => ?_)
        have S10 : Shape y10 := by rw [e10]; exact S4.svA fa_118 _ _
        have kp10 : Keep lmA h y10 := by rw [e10]; exact kp4.sv rfl _
        refine p_aload 128 rfl rfl rfl ?_
        refine p_getfr (j := 79) (z := 122) 131 rfl rfl rfl (tg_66 S10) rfl (fi_66_79 S10) ?_
        refine p_iload 132 rfl rfl rfl ?_
        refine p_dup2 133 rfl rfl nl_i nl_r ?_
        refine p_iald (w := 10) (z := (Lgo u s)) 134 rfl rfl (tg_122 S10) (ln_122 S10) (by omega) (by omega) (by rw [e10, sv_ne (by decide)]; exact f122) ?_
        refine p_const 135 rfl rfl ?_
        refine p_iadd (z := (Lgo u s) + 1) 136 rfl rfl (w32_id ⟨(by omega), (by omega)⟩) ?_
        refine p_iast (w := 10) 137 rfl rfl (by decide) (tg_122 S10) (ln_122 S10) (by omega) (by omega) ?_
        refine p_nmh (fun y11 e11 => ?_)
        have S11 : Shape y11 := by rw [e11]; exact S10.svA fa_122 _ _
        have kp11 : Keep lmA h y11 := by rw [e11]; exact kp10.sv rfl _
        have RM := r4.kp (h2 := y11) (fun a i z => by rw [e11, sv_ne (by omega), e10, sv_ne (by omega)])
        have XR : LM y11 last (readL s u) := by
          refine X0.chg (s := s) (fun b i z => by rw [e11, sv_off (by omega), e10, sv_off (by omega)]; exact o4 b i (by omega)) (fun i _ => by rw [e11, sv_ne (by decide), e10, sv_ne (by decide)]; exact o4 115 i (by omega)) (fun i _ _ => by rw [e11, sv_ne (by decide), e10, sv_ne (by decide)]; exact o4 66 i (by omega)) (fun x hx => ⟨rfl, rfl, up_ne hx, rfl, rfl, rfl, rfl, up_ne hx⟩) rfl (fun _ => ?_) ?_
          · exact ⟨⟨q0, q0'⟩, by rw [e11, sv_ne (by decide), e10, sv_ne (by decide)]; exact f116, by rw [e11, sv_ne (by decide), e10, sv_ne (by decide), o4 117 s (by omega)]; exact q2, fun j w hj => by rw [e11, sv_ne (by decide), e10, sv_ne (by decide), o4 115 _ (by omega)]; exact q3 j w hj⟩
          · show gv _ 118 s = (if up (Lal u) s 0 s = 0 then -1 else up (Lal u) s 0 s) ∧ (up (Lal u) s 0 s ≠ 0 → gv _ 119 s = Lfr u s) ∧ gv _ 120 s = Lgt u s ∧ gv _ 121 s = Lga u s ∧ gv _ 122 s = up (Lgo u) s (Lgo u s + 1) s ∧ gv _ 123 s = Llo u s
            rw [up_eq, up_eq, if_pos rfl]
            exact ⟨by rw [e11, sv_ne (by decide), e10, sv_eq], fun z => absurd rfl z, by rw [e11, sv_ne (by decide), e10, sv_ne (by decide), o4 120 s (by omega)]; exact e120, by rw [e11, sv_ne (by decide), e10, sv_ne (by decide), o4 121 s (by omega)]; exact e121, by rw [e11, sv_eq], by rw [e11, sv_ne (by decide), e10, sv_ne (by decide), o4 123 s (by omega)]; exact e123⟩
        refine p_aload 138 rfl rfl rfl ?_
        refine p_iload 139 rfl rfl rfl ?_
        refine p_iload 140 rfl rfl rfl ?_
        refine p_const 141 rfl rfl ?_
        refine p_iadd (z := s + 1) 142 rfl rfl (w32_id ⟨(by omega), (by omega)⟩) ?_
        refine p_iload 143 rfl rfl rfl ?_
        refine p_callv (le := [some (.inr (.inr 66)), some (.inl k), some (.inl (s + 1)), some (.inl t), none]) (as := [.inr (.inr 66), .inl k, .inl (s + 1), .inl t]) (rest := []) 146 0 0 0 0 rfl rfl (Nat.le_of_ble_eq_true rfl) rfl (Nat.le_of_ble_eq_true rfl) rfl rfl (Nat.le_of_ble_eq_true rfl) rfl (Nat.le_of_ble_eq_true rfl) rfl (Nat.le_refl _) (Nat.le_refl _) rfl rfl (tg_66 S11) ?_
        refine m_hears R F k0 k200 S11 kp11 XR RM ok l1 (by omega) l9 ht g0 g1 L.2.2.2 hL hT (fun y12 p12 S12 => ?_)
        have kp12 : Keep lmA h y12 := p12.1
        show Wp (d + 9) 0 0 M_X12_passes 146 [some (.inr (.inr 66)), some (.inl k), some (.inl s), some (.inl t)] [] y12 _
        refine p_goto 188 rfl rfl ?_
        refine p_ret rfl rfl ?_
        -- leaf 3: answer [] h=y12  kp12
        exact K _ ⟨kp12, by rw [lstp_read c0 c1' o]; exact p12.2⟩ S12
    · skip
      refine p_ret rfl rfl ?_
      -- leaf 4: answer [] h=h1  k1
      exact K _ ⟨k1, by rw [lstp_wait c0 (by omega)]; exact X0⟩ S1

