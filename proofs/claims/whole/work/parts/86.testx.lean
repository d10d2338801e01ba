/-! SUM, COMPARISON, FACT, BOTH, TEST, the class's side (by wip/whole/gen/gen86.py) -/
theorem TL.nx {L : List Tok} (B : TL L) {i : Nat} (h : i < L.length) (k : (tk L i).1 ≠ 0) : i + 1 < L.length ∧ i < 700 ∧ tokB (tk L (i + 1)) := by
  have z := B.2.2 i h k
  exact ⟨z, by have := B.1; omega, B.2.1 _ z⟩
theorem TL.last {L : List Tok} (B : TL L) {i : Nat} (h : i < L.length) (k : 700 ≤ i) : (tk L i).1 = 0 := by
  apply Decidable.byContradiction
  intro z
  have := (B.nx h z).2.1
  omega
theorem isWordX {d : Nat} {h : PH} {q : PQ} (S : Shape h) (c : Int) {L : List Tok} {i : Nat} (C : CurX h L i) (K1 : isWd L i c → q (some (.inl 1)) h) (K2 : ¬ isWd L i c → q (some (.inl 0)) h) : Wp (d + 1) 0 0 M_X2_isWord 0 [some (.inr (.inr 11)), some (.inl c)] [] h q := by
  refine p_aload 1 rfl rfl rfl ?_
  refine p_getfi (j := 2) (z := (tk L i).1) 4 rfl rfl rfl (tg_11 S) rfl C.2.2.1 ?_
  refine p_const 5 rfl rfl ?_
  refine p_ic_ne 8 20 rfl rfl rfl (fun c1 => ?_) (fun c1 => ?_)
  · skip
    refine p_const 21 rfl rfl ?_
    refine p_zret rfl rfl (by decide) ?_
    -- leaf 1: answer [.inl 0] h=h 
    exact K2 (fun z => c1 z.1)
  · skip
    refine p_aload 9 rfl rfl rfl ?_
    refine p_getfi (j := 5) (z := (tk L i).2.2.2) 12 rfl rfl rfl (tg_11 S) rfl C.2.2.2.2.2.1 ?_
    refine p_iload 13 rfl rfl rfl ?_
    refine p_ic_ne 16 20 rfl rfl rfl (fun c2 => ?_) (fun c2 => ?_)
    · skip
      refine p_const 21 rfl rfl ?_
      refine p_zret rfl rfl (by decide) ?_
      -- leaf 2: answer [.inl 0] h=h 
      exact K2 (fun z => c2 z.2)
    · skip
      refine p_const 17 rfl rfl ?_
      refine p_goto 21 rfl rfl ?_
      refine p_zret rfl rfl (by decide) ?_
      -- leaf 3: answer [.inl 1] h=h 
      exact K1 ⟨by omega, by omega⟩
theorem isSignX {d : Nat} {h : PH} {q : PQ} (S : Shape h) (c : Int) {L : List Tok} {i : Nat} (C : CurX h L i) (K1 : isSg L i c → q (some (.inl 1)) h) (K2 : ¬ isSg L i c → q (some (.inl 0)) h) : Wp (d + 1) 0 0 M_X2_isSign 0 [some (.inr (.inr 11)), some (.inl c)] [] h q := by
  refine p_aload 1 rfl rfl rfl ?_
  refine p_getfi (j := 2) (z := (tk L i).1) 4 rfl rfl rfl (tg_11 S) rfl C.2.2.1 ?_
  refine p_const 5 rfl rfl ?_
  refine p_ic_ne 8 20 rfl rfl rfl (fun c1 => ?_) (fun c1 => ?_)
  · skip
    refine p_const 21 rfl rfl ?_
    refine p_zret rfl rfl (by decide) ?_
    -- leaf 1: answer [.inl 0] h=h 
    exact K2 (fun z => c1 z.1)
  · skip
    refine p_aload 9 rfl rfl rfl ?_
    refine p_getfi (j := 5) (z := (tk L i).2.2.2) 12 rfl rfl rfl (tg_11 S) rfl C.2.2.2.2.2.1 ?_
    refine p_iload 13 rfl rfl rfl ?_
    refine p_ic_ne 16 20 rfl rfl rfl (fun c2 => ?_) (fun c2 => ?_)
    · skip
      refine p_const 21 rfl rfl ?_
      refine p_zret rfl rfl (by decide) ?_
      -- leaf 2: answer [.inl 0] h=h 
      exact K2 (fun z => c2 z.2)
    · skip
      refine p_const 17 rfl rfl ?_
      refine p_goto 21 rfl rfl ?_
      refine p_zret rfl rfl (by decide) ?_
      -- leaf 3: answer [.inl 1] h=h 
      exact K1 ⟨by omega, by omega⟩
theorem advX {d : Nat} {h : PH} {q : PQ} (S : Shape h) {L : List Tok} {i : Nat} (B : TL L) (X : TkH h L) (C : CurX h L i) (kn : (tk L i).1 ≠ 0) (K : ∀ h', (Keep avA h h' ∧ CurX h' L (i + 1)) → Shape h' → q none h') : Wp (d + 1) 0 0 M_X2_advance 0 [some (.inr (.inr 11)), none, none] [] h q :=
  x_advance S X (B.nx C.1 kn).2.2 B.1 (B.nx C.1 kn).1 (by have := C.2.1; omega) C.2.2.2.2.2.2.1 C.2.2.2.2.2.2.2 K
def jnW (v : Int) : Int := if jcd v = -1 then -1 else tcf (jcd v)
def cmW (v : Int) : Int := if ccd v = -1 then -1 else tcf (ccd v)
theorem x_joining {d : Nat} {h : PH} {q : PQ} (_S : Shape h) (v : Int) (K : q (some (.inl (jnW v))) h) : Wp (d + 1) 0 0 M_X3_joining 0 [some (.inl v)] [] h q := by
  refine p_iload 1 rfl rfl rfl ?_
  refine p_swt rfl ?_
  refine ⟨fun c1 => ?_, fun c1 => ?_⟩
  · show Wp (d + 1) 0 0 M_X3_joining 38 [some (.inl v)] [] h _
    refine p_const 40 rfl rfl ?_
    refine p_iret rfl rfl ?_
    -- leaf 1: answer [.inl (-10)] h=h 
    first | (subst_vars; exact K) | (have e : jcd v = -1 := (by unfold jcd; rw [if_neg (by omega), if_neg (by omega), if_neg (by omega)]); unfold jnW at K; rw [if_pos e] at K; exact K)
  · have c1_0 := c1
    refine ⟨fun c1 => ?_, fun c1 => ?_⟩
    · show Wp (d + 1) 0 0 M_X3_joining 32 [some (.inl v)] [] h _
      refine p_const 34 rfl rfl ?_
      refine p_iret rfl rfl ?_
      -- leaf 2: answer [.inl (-8)] h=h 
      first | (subst_vars; exact K) | (have e : jcd v = -1 := (by unfold jcd; rw [if_neg (by omega), if_neg (by omega), if_neg (by omega)]); unfold jnW at K; rw [if_pos e] at K; exact K)
    · have c1_1 := c1
      refine ⟨fun c1 => ?_, fun c1 => ?_⟩
      · show Wp (d + 1) 0 0 M_X3_joining 41 [some (.inl v)] [] h _
        refine p_const 42 rfl rfl ?_
        refine p_iret rfl rfl ?_
        -- leaf 3: answer [.inl (-1)] h=h 
        first | (subst_vars; exact K) | (have e : jcd v = -1 := (by unfold jcd; rw [if_neg (by omega), if_neg (by omega), if_neg (by omega)]); unfold jnW at K; rw [if_pos e] at K; exact K)
      · have c1_2 := c1
        refine ⟨fun c1 => ?_, fun c1 => ?_⟩
        · show Wp (d + 1) 0 0 M_X3_joining 35 [some (.inl v)] [] h _
          refine p_const 37 rfl rfl ?_
          refine p_iret rfl rfl ?_
          -- leaf 4: answer [.inl (-9)] h=h 
          first | (subst_vars; exact K) | (have e : jcd v = -1 := (by unfold jcd; rw [if_neg (by omega), if_neg (by omega), if_neg (by omega)]); unfold jnW at K; rw [if_pos e] at K; exact K)
        · have c1_3 := c1
          show Wp (d + 1) 0 0 M_X3_joining 41 [some (.inl v)] [] h _
          refine p_const 42 rfl rfl ?_
          refine p_iret rfl rfl ?_
          -- leaf 5: answer [.inl (-1)] h=h 
          first | (subst_vars; exact K) | (have e : jcd v = -1 := (by unfold jcd; rw [if_neg (by omega), if_neg (by omega), if_neg (by omega)]); unfold jnW at K; rw [if_pos e] at K; exact K)
theorem x_comparing {d : Nat} {h : PH} {q : PQ} (_S : Shape h) (v : Int) (K : q (some (.inl (cmW v))) h) : Wp (d + 1) 0 0 M_X3_comparing 0 [some (.inl v)] [] h q := by
  refine p_iload 1 rfl rfl rfl ?_
  refine p_swt rfl ?_
  refine ⟨fun c1 => ?_, fun c1 => ?_⟩
  · show Wp (d + 1) 0 0 M_X3_comparing 28 [some (.inl v)] [] h _
    refine p_const 30 rfl rfl ?_
    refine p_iret rfl rfl ?_
    -- leaf 1: answer [.inl (-11)] h=h 
    first | (subst_vars; exact K) | (have e : ccd v = -1 := (by unfold ccd; rw [if_neg (by omega), if_neg (by omega), if_neg (by omega)]); unfold cmW at K; rw [if_pos e] at K; exact K)
  · have c1_0 := c1
    refine ⟨fun c1 => ?_, fun c1 => ?_⟩
    · show Wp (d + 1) 0 0 M_X3_comparing 34 [some (.inl v)] [] h _
      refine p_const 36 rfl rfl ?_
      refine p_iret rfl rfl ?_
      -- leaf 2: answer [.inl (-13)] h=h 
      first | (subst_vars; exact K) | (have e : ccd v = -1 := (by unfold ccd; rw [if_neg (by omega), if_neg (by omega), if_neg (by omega)]); unfold cmW at K; rw [if_pos e] at K; exact K)
    · have c1_1 := c1
      refine ⟨fun c1 => ?_, fun c1 => ?_⟩
      · show Wp (d + 1) 0 0 M_X3_comparing 31 [some (.inl v)] [] h _
        refine p_const 33 rfl rfl ?_
        refine p_iret rfl rfl ?_
        -- leaf 3: answer [.inl (-12)] h=h 
        first | (subst_vars; exact K) | (have e : ccd v = -1 := (by unfold ccd; rw [if_neg (by omega), if_neg (by omega), if_neg (by omega)]); unfold cmW at K; rw [if_pos e] at K; exact K)
      · have c1_2 := c1
        show Wp (d + 1) 0 0 M_X3_comparing 37 [some (.inl v)] [] h _
        refine p_const 38 rfl rfl ?_
        refine p_iret rfl rfl ?_
        -- leaf 4: answer [.inl (-1)] h=h 
        first | (subst_vars; exact K) | (have e : ccd v = -1 := (by unfold ccd; rw [if_neg (by omega), if_neg (by omega), if_neg (by omega)]); unfold cmW at K; rw [if_pos e] at K; exact K)
theorem jAt_k {L : List Tok} {i : Nat} (h : jAt L i ≠ -1) : (tk L i).1 = 4 := by
  unfold jAt at h
  by_cases z : (tk L i).1 = 4
  · exact z
  · rw [if_neg z] at h; exact absurd rfl h
theorem cAt_k {L : List Tok} {i : Nat} (h : cAt L i ≠ -1) : (tk L i).1 = 4 := by
  unfold cAt at h
  by_cases z : (tk L i).1 = 4
  · exact z
  · rw [if_neg z] at h; exact absurd rfl h
theorem jn_or {L : List Tok} {i : Nat} (z : (tk L i).1 = 4) : (jnW (tk L i).2.2.2 = -1 ∧ jAt L i = -1) ∨ (jnW (tk L i).2.2.2 ≠ -1 ∧ jAt L i ≠ -1 ∧ jnW (tk L i).2.2.2 = tcf (jAt L i)) := by
  unfold jAt jnW
  rw [if_pos z]
  have : jcd (tk L i).2.2.2 = -1 ∨ jcd (tk L i).2.2.2 = 1 ∨ jcd (tk L i).2.2.2 = 2 ∨ jcd (tk L i).2.2.2 = 3 := by unfold jcd; (repeat' split) <;> omega
  rcases this with y | y | y | y <;> rw [y] <;> decide
theorem cm_or {L : List Tok} {i : Nat} (z : (tk L i).1 = 4) : (cmW (tk L i).2.2.2 = -1 ∧ cAt L i = -1) ∨ (cmW (tk L i).2.2.2 ≠ -1 ∧ cAt L i ≠ -1 ∧ cmW (tk L i).2.2.2 = tcf (cAt L i)) := by
  unfold cAt cmW
  rw [if_pos z]
  have : ccd (tk L i).2.2.2 = -1 ∨ ccd (tk L i).2.2.2 = 11 ∨ ccd (tk L i).2.2.2 = 12 ∨ ccd (tk L i).2.2.2 = 13 := by unfold ccd; (repeat' split) <;> omega
  rcases this with y | y | y | y <;> rw [y] <;> decide
theorem CurX.em {h h' : PH} {L : List Tok} {i : Nat} (C : CurX h L i) (k : Keep emA h h') : CurX h' L i := by
  obtain ⟨c0, c1, c2, c3, c4, c5, c6, c7⟩ := C
  exact ⟨c0, (k.1 11 1 rfl).trans c1, (k.1 11 2 rfl).trans c2, (k.1 11 3 rfl).trans c3, (k.1 11 4 rfl).trans c4, (k.1 11 5 rfl).trans c5, (k.1 11 6 rfl).trans c6, (k.1 11 7 rfl).trans c7⟩
theorem sumX {L : List Tok} {i : Nat} (B : TL L) (HP : ∀ i', i ≤ i' → ClX L Wpart (fun u => 2 * u + 2) 0 i') : ClX L Wsum (fun u => 2 * u + 3) 1 i := by
  intro dd u o h q P ou hd S X C Y pl K
  show Wp dd 0 0 M_X2_sum 0 [some (.inr (.inr 11)), some (.inl o), none, none] [] h q
  have hd : 2 * u + 3 ≤ dd := hd
  obtain ⟨e, rfl⟩ : ∃ e, dd = e + 2 := ⟨dd - 2, by omega⟩
  have k0 := Keep.rf ppA h
  have J12 : ∀ (c j it : Nat) (acc : List Int) (w3 : Option PV) (h1 : PH), L.length - j ≤ c → i < j → acc.length + i ≤ j → it ≤ j → Shape h1 → Keep ppA h h1 → CurX h1 L j → PrX h1 (P ++ acc.map tcf) → (∀ r, Dv L 2 acc o j r → Dv L 1 [] o i r) →
      Wp (e + 2) 0 0 M_X2_sum 12 [some (.inr (.inr 11)), some (.inl o), some (.inl it), w3] [] h1 q := by
    intro c
    induction c with
    | zero =>
      intro j it acc w3 h1 hc
      intro _ _ _ _ _ C1
      exact absurd C1.1 (by omega)
    | succ c ih =>
      intro j it acc w3 h1 hc ij al itj S1 k1 C1 Y1 sub
      have done : jAt L j = -1 → q (some (.inl 1)) h1 := fun z => K 1 h1 ⟨k1, _, sub _ (Dv.lEnd z), rfl, C1, Y1⟩ S1
      have pa : (P ++ acc.map tcf).length = P.length + acc.length := by rw [List.length_append, List.length_map]
      have J38 : ∀ (f : Int), it < 700 → (f = -1 ∧ jAt L j = -1) ∨ (f ≠ -1 ∧ jAt L j ≠ -1 ∧ f = tcf (jAt L j)) → Wp (e + 2) 0 0 M_X2_sum 38 [some (.inr (.inr 11)), some (.inl o), some (.inl it), w3] [.inl f] h1 q := by
        intro f i7 hf
        refine p_istore (ls' := [some (.inr (.inr 11)), some (.inl (o : Int)), some (.inl (it : Int)), some (.inl f)]) 39 rfl rfl (Nat.le_of_ble_eq_true rfl) rfl ?_
        refine p_iload 40 rfl rfl rfl ?_
        refine p_const 41 rfl rfl ?_
        refine p_ic_ne 44 46 rfl rfl rfl (fun c1 => ?_) (fun c1 => ?_)
        · skip
          obtain ⟨jn, fj⟩ : jAt L j ≠ -1 ∧ f = tcf (jAt L j) := by rcases hf with ⟨z, _⟩ | ⟨_, z⟩; exact absurd z c1; exact z
          have kn : (tk L j).1 ≠ 0 := by rw [jAt_k jn]; decide
          refine p_aload 47 rfl rfl rfl ?_
          refine p_callv (le := [some (.inr (.inr 11)), none, none]) (as := [.inr (.inr 11)]) (rest := []) 50 0 0 0 0 rfl rfl (Nat.le_of_ble_eq_true rfl) rfl (Nat.le_of_ble_eq_true rfl) rfl rfl (Nat.le_of_ble_eq_true rfl) rfl (Nat.le_of_ble_eq_true rfl) rfl (Nat.le_refl _) (Nat.le_refl _) rfl rfl (tg_11 S1) ?_
          refine advX S1 B (X.pp k1) C1 kn (fun y2 p2 S2 => ?_)
          have kp2 : Keep ppA h y2 := k1.trans (p2.1.wide avA_ppA)
          show Wp (e + 2) 0 0 M_X2_sum 50 [some (.inr (.inr 11)), some (.inl (o : Int)), some (.inl (it : Int)), some (.inl f)] [] y2 _
          refine p_aload 51 rfl rfl rfl ?_
          refine p_iload 52 rfl rfl rfl ?_
          refine p_callv (le := [some (.inr (.inr 11)), some (.inl (o : Int)), none]) (as := [.inr (.inr 11), .inl (o : Int)]) (rest := []) 55 0 0 0 0 rfl rfl (Nat.le_of_ble_eq_true rfl) rfl (Nat.le_of_ble_eq_true rfl) rfl rfl (Nat.le_of_ble_eq_true rfl) rfl (Nat.le_of_ble_eq_true rfl) rfl (Nat.le_refl _) (Nat.le_refl _) rfl rfl (tg_11 S2) ?_
          refine HP (j + 1) (by omega) (e + 1) u o _ _ (P ++ acc.map tcf) ou (by show 2 * u + 2 ≤ e + 1; omega) S2 (X.pp kp2) p2.2 (Y1.av p2.1) (by omega) (fun r3 y3 p3 S3 => ?_)
          have kp3 : Keep ppA h y3 := kp2.trans p3.1
          show Wp (e + 2) 0 0 M_X2_sum 55 [some (.inr (.inr 11)), some (.inl (o : Int)), some (.inl (it : Int)), some (.inl f)] [.inl r3] y3 _
          refine p_if_ne 58 60 rfl rfl rfl (fun c4 => ?_) (fun c4 => ?_)
          · skip
            obtain ⟨_, r, dv, en⟩ := p3
            obtain ⟨j', c', er, C3, Y4⟩ := en.yes c4
            subst er
            have ln := dv.len1 (by decide)
            have lj := C3.1
            have l7 := B.1
            have l4 : (P ++ acc.map tcf ++ c'.map tcf).length < 700 := by rw [List.length_append, List.length_map, pa]; omega
            refine p_aload 61 rfl rfl rfl ?_
            refine p_iload 62 rfl rfl rfl ?_
            refine p_callv (le := [some (.inr (.inr 11)), some (.inl f)]) (as := [.inr (.inr 11), .inl f]) (rest := []) 65 0 0 0 0 rfl rfl (Nat.le_of_ble_eq_true rfl) rfl (Nat.le_of_ble_eq_true rfl) rfl rfl (Nat.le_of_ble_eq_true rfl) rfl (Nat.le_of_ble_eq_true rfl) rfl (Nat.le_refl _) (Nat.le_refl _) rfl rfl (tg_11 S3) ?_
            refine x_emit S3 f Y4 l4 (fun y5 p5 S5 => ?_)
            have kp5 : Keep ppA h y5 := kp3.trans (p5.1.wide emA_ppA)
            show Wp (e + 2) 0 0 M_X2_sum 65 [some (.inr (.inr 11)), some (.inl (o : Int)), some (.inl (it : Int)), some (.inl f)] [] y5 _
            refine p_iinc (y := (it : Int) + 1) (ls' := [some (.inr (.inr 11)), some (.inl (o : Int)), some (.inl ((it : Int) + 1)), some (.inl f)]) 68 rfl rfl rfl (w32_id ⟨(by omega), (by omega)⟩) rfl ?_
            refine p_goto 12 rfl rfl ?_
            -- leaf 1: loop 12 [some (.inr (.inr 11)), some (.inl (o : Int)), some (.inl ((it : Int) + 1)), some (.inl f)] st=[] h=y5  kp5
            refine ih j' (it + 1) (acc ++ c' ++ [jAt L j]) _ _ (by omega) (by omega) ?_ (by omega) S5 kp5 (C3.em p5.1) ?_ (fun r dr => sub r (Dv.lGo jn dv dr))
            · rw [List.length_append, List.length_append]; show acc.length + c'.length + 1 + i ≤ j'; omega
            · have z := p5.2
              rw [fj] at z
              rw [List.map_append, List.map_append, ← List.append_assoc, ← List.append_assoc]; exact z
          · skip
            refine p_const 59 rfl rfl ?_
            refine p_zret rfl rfl (by decide) ?_
            -- leaf 2: answer [.inl 0] h=y3  kp3
            obtain ⟨_, r, dv, en⟩ := p3
            obtain ⟨kk, pp, er, a, b⟩ := en.no (by omega)
            subst er
            exact K 0 _ ⟨kp3, _, sub _ (Dv.lBad jn dv), rfl, a, b⟩ S3
        · skip
          refine p_const 45 rfl rfl ?_
          refine p_zret rfl rfl (by decide) ?_
          -- leaf 3: answer [.inl 1] h=h1  k1
          exact done (by rcases hf with ⟨_, z⟩ | ⟨z, _⟩; exact z; exact absurd (by omega) z)
      refine p_iload 13 rfl rfl rfl ?_
      refine p_const 16 rfl rfl ?_
      refine p_ic_ge 19 71 rfl rfl rfl (fun c1 => ?_) (fun c1 => ?_)
      · skip
        refine p_const 72 rfl rfl ?_
        refine p_zret rfl rfl (by decide) ?_
        -- leaf 1: answer [.inl 1] h=h1 
        exact done (by unfold jAt; rw [B.last C1.1 (by omega), if_neg (by decide)])
      · skip
        refine p_aload 20 rfl rfl rfl ?_
        refine p_getfi (j := 2) (z := (tk L j).1) 23 rfl rfl rfl (tg_11 S1) rfl C1.2.2.1 ?_
        refine p_const 24 rfl rfl ?_
        refine p_ic_ne 27 37 rfl rfl rfl (fun c2 => ?_) (fun c2 => ?_)
        · skip
          refine p_const 38 rfl rfl ?_
          -- leaf 2: loop 38 [some (.inr (.inr 11)), some (.inl (o : Int)), some (.inl (it : Int)), w3] st=[.inl (-1)] h=h1 
          exact J38 (-1) (by omega) (Or.inl ⟨rfl, by unfold jAt; rw [if_neg c2]⟩)
        · skip
          refine p_aload 28 rfl rfl rfl ?_
          refine p_getfi (j := 5) (z := (tk L j).2.2.2) 31 rfl rfl rfl (tg_11 S1) rfl C1.2.2.2.2.2.1 ?_
          refine p_calls (le := [some (.inl ((tk L j).2.2.2))]) (as := [.inl ((tk L j).2.2.2)]) (rest := []) 34 0 0 0 0 rfl rfl (Nat.le_of_ble_eq_true rfl) rfl (Nat.le_of_ble_eq_true rfl) rfl rfl (Nat.le_of_ble_eq_true rfl) rfl (Nat.le_of_ble_eq_true rfl) rfl (Nat.le_refl _) (Nat.le_refl _) rfl rfl ?_
          refine x_joining S1 ((tk L j).2.2.2) ?_
          show Wp (e + 2) 0 0 M_X2_sum 34 [some (.inr (.inr 11)), some (.inl (o : Int)), some (.inl (it : Int)), w3] [.inl (jnW ((tk L j).2.2.2))] h1 _
          refine p_goto 38 rfl rfl ?_
          -- leaf 3: loop 38 [some (.inr (.inr 11)), some (.inl (o : Int)), some (.inl (it : Int)), w3] st=[.inl (jnW ((tk L j).2.2.2))] h=h1 
          exact J38 _ (by omega) (jn_or (by omega))
  refine p_aload 1 rfl rfl rfl ?_
  refine p_iload 2 rfl rfl rfl ?_
  refine p_callv (le := [some (.inr (.inr 11)), some (.inl (o : Int)), none]) (as := [.inr (.inr 11), .inl (o : Int)]) (rest := []) 5 0 0 0 0 rfl rfl (Nat.le_of_ble_eq_true rfl) rfl (Nat.le_of_ble_eq_true rfl) rfl rfl (Nat.le_of_ble_eq_true rfl) rfl (Nat.le_of_ble_eq_true rfl) rfl (Nat.le_refl _) (Nat.le_refl _) rfl rfl (tg_11 S) ?_
  refine HP i (Nat.le_refl i) (e + 1) u o _ _ P ou (by show 2 * u + 2 ≤ e + 1; omega) S X C Y pl (fun r1 y1 p1 S1 => ?_)
  have kp1 : Keep ppA h y1 := k0.trans p1.1
  show Wp (e + 2) 0 0 M_X2_sum 5 [some (.inr (.inr 11)), some (.inl (o : Int)), none, none] [.inl r1] y1 _
  refine p_if_ne 8 10 rfl rfl rfl (fun c2 => ?_) (fun c2 => ?_)
  · skip
    refine p_const 11 rfl rfl ?_
    refine p_istore (ls' := [some (.inr (.inr 11)), some (.inl (o : Int)), some (.inl 0), none]) 12 rfl rfl (Nat.le_of_ble_eq_true rfl) rfl ?_
    -- leaf 1: loop 12 [some (.inr (.inr 11)), some (.inl (o : Int)), some (.inl 0), none] st=[] h=y1  kp1
    obtain ⟨_, r, dv, en⟩ := p1
    obtain ⟨j, c, er, C1, Y1⟩ := en.yes c2
    subst er
    have ln := dv.len1 (by decide)
    exact J12 L.length j 0 c _ _ (by omega) ln.1 ln.2 (Nat.zero_le _) S1 kp1 C1 Y1 (fun r dr => Dv.sGo dv dr)
  · skip
    refine p_const 9 rfl rfl ?_
    refine p_zret rfl rfl (by decide) ?_
    -- leaf 2: answer [.inl 0] h=y1  kp1
    obtain ⟨_, r, dv, en⟩ := p1
    obtain ⟨kk, pp, er, a, b⟩ := en.no (by omega)
    subst er
    exact K 0 _ ⟨kp1, _, Dv.sBad dv, rfl, a, b⟩ S1
theorem compX {L : List Tok} {i : Nat} (B : TL L) (HS : ∀ i', i ≤ i' → ClX L Wsum (fun u => 2 * u + 3) 1 i') : ClX L Wcomp (fun u => 2 * u + 4) 3 i := by
  intro dd u o h q P ou hd S X C Y pl K
  show Wp dd 0 0 M_X2_comparison 0 [some (.inr (.inr 11)), some (.inl o), none] [] h q
  have hd : 2 * u + 4 ≤ dd := hd
  obtain ⟨e, rfl⟩ : ∃ e, dd = e + 2 := ⟨dd - 2, by omega⟩
  have k0 := Keep.rf ppA h
  have l7 := B.1
  have J29 : ∀ (j : Nat) (c : List Int) (f : Int) (h1 : PH), Dv L 1 [] o i (okR j c) → Shape h1 → Keep ppA h h1 → CurX h1 L j → PrX h1 (P ++ c.map tcf) → (f = -1 ∧ cAt L j = -1) ∨ (f ≠ -1 ∧ cAt L j ≠ -1 ∧ f = tcf (cAt L j)) → Wp (e + 2) 0 0 M_X2_comparison 29 [some (.inr (.inr 11)), some (.inl o), none] [.inl f] h1 q := by
    intro j c f h1 dv S1 k1 C1 Y1 hf
    have ln := dv.len1 (by decide)
    have pa : (P ++ c.map tcf).length = P.length + c.length := by rw [List.length_append, List.length_map]
    refine p_istore (ls' := [some (.inr (.inr 11)), some (.inl (o : Int)), some (.inl f)]) 30 rfl rfl (Nat.le_of_ble_eq_true rfl) rfl ?_
    refine p_iload 31 rfl rfl rfl ?_
    refine p_const 32 rfl rfl ?_
    refine p_ic_ne 35 45 rfl rfl rfl (fun c1 => ?_) (fun c1 => ?_)
    · skip
      obtain ⟨jn, fj⟩ : cAt L j ≠ -1 ∧ f = tcf (cAt L j) := by rcases hf with ⟨z, _⟩ | ⟨_, z⟩; exact absurd z c1; exact z
      have kn : (tk L j).1 ≠ 0 := by rw [cAt_k jn]; decide
      refine p_aload 46 rfl rfl rfl ?_
      refine p_callv (le := [some (.inr (.inr 11)), none, none]) (as := [.inr (.inr 11)]) (rest := []) 49 0 0 0 0 rfl rfl (Nat.le_of_ble_eq_true rfl) rfl (Nat.le_of_ble_eq_true rfl) rfl rfl (Nat.le_of_ble_eq_true rfl) rfl (Nat.le_of_ble_eq_true rfl) rfl (Nat.le_refl _) (Nat.le_refl _) rfl rfl (tg_11 S1) ?_
      refine advX S1 B (X.pp k1) C1 kn (fun y2 p2 S2 => ?_)
      have kp2 : Keep ppA h y2 := k1.trans (p2.1.wide avA_ppA)
      show Wp (e + 2) 0 0 M_X2_comparison 49 [some (.inr (.inr 11)), some (.inl (o : Int)), some (.inl f)] [] y2 _
      refine p_aload 50 rfl rfl rfl ?_
      refine p_iload 51 rfl rfl rfl ?_
      refine p_callv (le := [some (.inr (.inr 11)), some (.inl (o : Int)), none, none]) (as := [.inr (.inr 11), .inl (o : Int)]) (rest := []) 54 0 0 0 0 rfl rfl (Nat.le_of_ble_eq_true rfl) rfl (Nat.le_of_ble_eq_true rfl) rfl rfl (Nat.le_of_ble_eq_true rfl) rfl (Nat.le_of_ble_eq_true rfl) rfl (Nat.le_refl _) (Nat.le_refl _) rfl rfl (tg_11 S2) ?_
      refine HS (j + 1) (by omega) (e + 1) u o _ _ (P ++ c.map tcf) ou (by show 2 * u + 3 ≤ e + 1; omega) S2 (X.pp kp2) p2.2 (Y1.av p2.1) (by omega) (fun r3 y3 p3 S3 => ?_)
      have kp3 : Keep ppA h y3 := kp2.trans p3.1
      show Wp (e + 2) 0 0 M_X2_comparison 54 [some (.inr (.inr 11)), some (.inl (o : Int)), some (.inl f)] [.inl r3] y3 _
      refine p_if_ne 57 59 rfl rfl rfl (fun c4 => ?_) (fun c4 => ?_)
      · skip
        obtain ⟨_, r, dv2, en⟩ := p3
        obtain ⟨j', c', er, C3, Y4⟩ := en.yes c4
        subst er
        have ln2 := dv2.len1 (by decide)
        have lj := C3.1
        have l4 : (P ++ c.map tcf ++ c'.map tcf).length < 700 := by rw [List.length_append, List.length_map, pa]; omega
        refine p_aload 60 rfl rfl rfl ?_
        refine p_iload 61 rfl rfl rfl ?_
        refine p_callv (le := [some (.inr (.inr 11)), some (.inl f)]) (as := [.inr (.inr 11), .inl f]) (rest := []) 64 0 0 0 0 rfl rfl (Nat.le_of_ble_eq_true rfl) rfl (Nat.le_of_ble_eq_true rfl) rfl rfl (Nat.le_of_ble_eq_true rfl) rfl (Nat.le_of_ble_eq_true rfl) rfl (Nat.le_refl _) (Nat.le_refl _) rfl rfl (tg_11 S3) ?_
        refine x_emit S3 f Y4 l4 (fun y5 p5 S5 => ?_)
        have kp5 : Keep ppA h y5 := kp3.trans (p5.1.wide emA_ppA)
        show Wp (e + 2) 0 0 M_X2_comparison 64 [some (.inr (.inr 11)), some (.inl (o : Int)), some (.inl f)] [] y5 _
        refine p_const 65 rfl rfl ?_
        refine p_zret rfl rfl (by decide) ?_
        -- leaf 1: answer [.inl 1] h=y5  kp5
        refine K 1 _ ⟨kp5, _, Dv.cOk dv jn dv2, rfl, C3.em p5.1, ?_⟩ S5
        have z := p5.2
        rw [fj] at z
        rw [List.map_append, List.map_append, ← List.append_assoc, ← List.append_assoc]; exact z
      · skip
        refine p_const 58 rfl rfl ?_
        refine p_zret rfl rfl (by decide) ?_
        -- leaf 2: answer [.inl 0] h=y3  kp3
        obtain ⟨_, r, dv2, en⟩ := p3
        obtain ⟨kk, pp, er, a, b⟩ := en.no (by omega)
        subst er
        exact K 0 _ ⟨kp3, _, Dv.cBad2 dv jn dv2, rfl, a, b⟩ S3
    · skip
      refine p_aload 36 rfl rfl rfl ?_
      refine p_const 37 rfl rfl ?_
      refine p_aload 38 rfl rfl rfl ?_
      refine p_getfi (j := 3) (z := (tk L j).2.1) 41 rfl rfl rfl (tg_11 S1) rfl C1.2.2.2.1 ?_
      refine p_callv (le := [some (.inr (.inr 11)), some (.inl 1), some (.inl ((tk L j).2.1))]) (as := [.inr (.inr 11), .inl 1, .inl ((tk L j).2.1)]) (rest := []) 44 0 0 0 0 rfl rfl (Nat.le_of_ble_eq_true rfl) rfl (Nat.le_of_ble_eq_true rfl) rfl rfl (Nat.le_of_ble_eq_true rfl) rfl (Nat.le_of_ble_eq_true rfl) rfl (Nat.le_refl _) (Nat.le_refl _) rfl rfl (tg_11 S1) ?_
      refine p_aload 1 rfl rfl rfl ?_
      refine p_iload 2 rfl rfl rfl ?_
      refine p_putfi (j := 6) 5 rfl rfl rfl (fun z => absurd z (by decide)) (tg_11 S1) rfl ?_
      refine p_nmh (fun y6 e6 => ?_)
      have S6 : Shape y6 := by rw [e6]; exact S1.svF ff_11_6 _
      have kp6 : Keep ppA h y6 := by rw [e6]; exact k1.sv rfl _
      refine p_aload 6 rfl rfl rfl ?_
      refine p_iload 7 rfl rfl rfl ?_
      refine p_putfi (j := 7) 10 rfl rfl rfl (fun z => absurd z (by decide)) (tg_11 S6) rfl ?_
      refine p_nmh (fun y7 e7 => ?_)
      have S7 : Shape y7 := by rw [e7]; exact S6.svF ff_11_7 _
      have kp7 : Keep ppA h y7 := by rw [e7]; exact kp6.sv rfl _
      refine p_const 11 rfl rfl ?_
      refine p_zret rfl rfl (by decide) ?_
      show Wp (e + 2) 0 0 M_X2_comparison 44 [some (.inr (.inr 11)), some (.inl (o : Int)), some (.inl f)] [.inl 0] y7 _
      refine p_zret rfl rfl (by decide) ?_
      -- leaf 3: answer [.inl 0] h=y7 e7,e6 kp7
      have cn : cAt L j = -1 := by rcases hf with ⟨_, z⟩ | ⟨z, _⟩; exact z; exact absurd (by omega) z
      exact K 0 _ ⟨kp7, _, Dv.cNo dv cn, rfl, by rw [e7, sv_nf (by decide), e6, sv_eq], by rw [e7, sv_eq]⟩ S7
  have J10 : ∀ (j : Nat) (c : List Int) (h1 : PH), Dv L 1 [] o i (okR j c) → Shape h1 → Keep ppA h h1 → CurX h1 L j → PrX h1 (P ++ c.map tcf) → Wp (e + 2) 0 0 M_X2_comparison 10 [some (.inr (.inr 11)), some (.inl o), none] [] h1 q := by
    intro j c h1 dv S1 k1 C1 Y1
    refine p_aload 11 rfl rfl rfl ?_
    refine p_getfi (j := 2) (z := (tk L j).1) 14 rfl rfl rfl (tg_11 S1) rfl C1.2.2.1 ?_
    refine p_const 15 rfl rfl ?_
    refine p_ic_ne 18 28 rfl rfl rfl (fun c1 => ?_) (fun c1 => ?_)
    · skip
      refine p_const 29 rfl rfl ?_
      -- leaf 1: loop 29 [some (.inr (.inr 11)), some (.inl (o : Int)), none] st=[.inl (-1)] h=h1 
      exact J29 j c (-1) h1 dv S1 k1 C1 Y1 (Or.inl ⟨rfl, by unfold cAt; rw [if_neg c1]⟩)
    · skip
      refine p_aload 19 rfl rfl rfl ?_
      refine p_getfi (j := 5) (z := (tk L j).2.2.2) 22 rfl rfl rfl (tg_11 S1) rfl C1.2.2.2.2.2.1 ?_
      refine p_calls (le := [some (.inl ((tk L j).2.2.2))]) (as := [.inl ((tk L j).2.2.2)]) (rest := []) 25 0 0 0 0 rfl rfl (Nat.le_of_ble_eq_true rfl) rfl (Nat.le_of_ble_eq_true rfl) rfl rfl (Nat.le_of_ble_eq_true rfl) rfl (Nat.le_of_ble_eq_true rfl) rfl (Nat.le_refl _) (Nat.le_refl _) rfl rfl ?_
      refine x_comparing S1 ((tk L j).2.2.2) ?_
      show Wp (e + 2) 0 0 M_X2_comparison 25 [some (.inr (.inr 11)), some (.inl (o : Int)), none] [.inl (cmW ((tk L j).2.2.2))] h1 _
      refine p_goto 29 rfl rfl ?_
      -- leaf 2: loop 29 [some (.inr (.inr 11)), some (.inl (o : Int)), none] st=[.inl (cmW ((tk L j).2.2.2))] h=h1 
      exact J29 j c _ h1 dv S1 k1 C1 Y1 (cm_or (by omega))
  refine p_aload 1 rfl rfl rfl ?_
  refine p_iload 2 rfl rfl rfl ?_
  refine p_callv (le := [some (.inr (.inr 11)), some (.inl (o : Int)), none, none]) (as := [.inr (.inr 11), .inl (o : Int)]) (rest := []) 5 0 0 0 0 rfl rfl (Nat.le_of_ble_eq_true rfl) rfl (Nat.le_of_ble_eq_true rfl) rfl rfl (Nat.le_of_ble_eq_true rfl) rfl (Nat.le_of_ble_eq_true rfl) rfl (Nat.le_refl _) (Nat.le_refl _) rfl rfl (tg_11 S) ?_
  refine HS i (Nat.le_refl i) (e + 1) u o _ _ P ou (by show 2 * u + 3 ≤ e + 1; omega) S X C Y pl (fun r1 y1 p1 S1 => ?_)
  have kp1 : Keep ppA h y1 := k0.trans p1.1
  show Wp (e + 2) 0 0 M_X2_comparison 5 [some (.inr (.inr 11)), some (.inl (o : Int)), none] [.inl r1] y1 _
  refine p_if_ne 8 10 rfl rfl rfl (fun c2 => ?_) (fun c2 => ?_)
  · skip
    -- leaf 1: loop 10 [some (.inr (.inr 11)), some (.inl (o : Int)), none] st=[] h=y1  kp1
    obtain ⟨_, r, dv, en⟩ := p1
    obtain ⟨j, c, er, C1, Y1⟩ := en.yes c2
    subst er
    exact J10 j c _ dv S1 kp1 C1 Y1
  · skip
    refine p_const 9 rfl rfl ?_
    refine p_zret rfl rfl (by decide) ?_
    -- leaf 2: answer [.inl 0] h=y1  kp1
    obtain ⟨_, r, dv, en⟩ := p1
    obtain ⟨kk, pp, er, a, b⟩ := en.no (by omega)
    subst er
    exact K 0 _ ⟨kp1, _, Dv.cBad dv, rfl, a, b⟩ S1
theorem factX {L : List Tok} {i : Nat} (B : TL L) (HC : ClX L Wcomp (fun u => 2 * u + 4) 3 i) (IH : ∀ i', i < i' → ClX L Wtest (fun u => 3 * u + 7) 7 i' ∧ ClX L Wfact (fun u => 3 * u + 5) 4 i') : ClX L Wfact (fun u => 3 * u + 5) 4 i := by
  intro dd u o h q P ou hd S X C Y pl K
  show Wp dd 0 0 M_X2_fact 0 [some (.inr (.inr 11)), some (.inl o), none] [] h q
  have hd : 3 * u + 5 ≤ dd := hd
  obtain ⟨e, rfl⟩ : ∃ e, dd = e + 3 := ⟨dd - 3, by omega⟩
  have k0 := Keep.rf ppA h
  have l7 := B.1
  have g3 := C.2.2.2.1
  refine p_aload 1 rfl rfl rfl ?_
  refine p_const 4 rfl rfl ?_
  refine p_callv (le := [some (.inr (.inr 11)), some (.inl 1420)]) (as := [.inr (.inr 11), .inl 1420]) (rest := []) 7 0 0 0 0 rfl rfl (Nat.le_of_ble_eq_true rfl) rfl (Nat.le_of_ble_eq_true rfl) rfl rfl (Nat.le_of_ble_eq_true rfl) rfl (Nat.le_of_ble_eq_true rfl) rfl (Nat.le_refl _) (Nat.le_refl _) rfl rfl (tg_11 S) ?_
  refine isWordX S 1420 C (fun c1 => ?_) (fun c1 => ?_)
  · show Wp (e + 3) 0 0 M_X2_fact 7 [some (.inr (.inr 11)), some (.inl (o : Int)), none] [.inl 1] h _
    refine p_if_eq_f 10 rfl rfl (by decide) ?_
    refine p_aload 11 rfl rfl rfl ?_
    have kn : (tk L i).1 ≠ 0 := by rw [c1.1]; decide
    refine p_callv (le := [some (.inr (.inr 11)), none, none]) (as := [.inr (.inr 11)]) (rest := []) 14 0 0 0 0 rfl rfl (Nat.le_of_ble_eq_true rfl) rfl (Nat.le_of_ble_eq_true rfl) rfl rfl (Nat.le_of_ble_eq_true rfl) rfl (Nat.le_of_ble_eq_true rfl) rfl (Nat.le_refl _) (Nat.le_refl _) rfl rfl (tg_11 S) ?_
    refine advX S B (X.pp k0) C kn (fun y2 p2 S2 => ?_)
    have kp2 : Keep ppA h y2 := k0.trans (p2.1.wide avA_ppA)
    show Wp (e + 3) 0 0 M_X2_fact 14 [some (.inr (.inr 11)), some (.inl (o : Int)), none] [] y2 _
    have Y4 := Y.av p2.1
    have l4 : P.length < 700 := by have := (B.nx C.1 kn).2.1; omega
    refine p_aload 15 rfl rfl rfl ?_
    refine p_const 17 rfl rfl ?_
    refine p_callv (le := [some (.inr (.inr 11)), some (.inl (-6))]) (as := [.inr (.inr 11), .inl (-6)]) (rest := []) 20 0 0 0 0 rfl rfl (Nat.le_of_ble_eq_true rfl) rfl (Nat.le_of_ble_eq_true rfl) rfl rfl (Nat.le_of_ble_eq_true rfl) rfl (Nat.le_of_ble_eq_true rfl) rfl (Nat.le_refl _) (Nat.le_refl _) rfl rfl (tg_11 S2) ?_
    refine x_emit S2 (-6) Y4 l4 (fun y3 p3 S3 => ?_)
    have kp3 : Keep ppA h y3 := kp2.trans (p3.1.wide emA_ppA)
    show Wp (e + 3) 0 0 M_X2_fact 20 [some (.inr (.inr 11)), some (.inl (o : Int)), none] [] y3 _
    refine p_const 21 rfl rfl ?_
    refine p_zret rfl rfl (by decide) ?_
    -- leaf 1: answer [.inl 1] h=y3  kp3
    exact K 1 _ ⟨kp3, _, Dv.fAll c1, rfl, p2.2.em p3.1, p3.2⟩ S3
  · show Wp (e + 3) 0 0 M_X2_fact 7 [some (.inr (.inr 11)), some (.inl (o : Int)), none] [.inl 0] h _
    refine p_if_eq_t 22 rfl rfl (by decide) ?_
    refine p_aload 23 rfl rfl rfl ?_
    refine p_const 26 rfl rfl ?_
    refine p_callv (le := [some (.inr (.inr 11)), some (.inl 14836)]) (as := [.inr (.inr 11), .inl 14836]) (rest := []) 29 0 0 0 0 rfl rfl (Nat.le_of_ble_eq_true rfl) rfl (Nat.le_of_ble_eq_true rfl) rfl rfl (Nat.le_of_ble_eq_true rfl) rfl (Nat.le_of_ble_eq_true rfl) rfl (Nat.le_refl _) (Nat.le_refl _) rfl rfl (tg_11 S) ?_
    refine isWordX S 14836 C (fun c4 => ?_) (fun c4 => ?_)
    · show Wp (e + 3) 0 0 M_X2_fact 29 [some (.inr (.inr 11)), some (.inl (o : Int)), none] [.inl 1] h _
      refine p_istore (ls' := [some (.inr (.inr 11)), some (.inl (o : Int)), some (.inl 1)]) 30 rfl rfl (Nat.le_of_ble_eq_true rfl) rfl ?_
      refine p_iload 31 rfl rfl rfl ?_
      refine p_if_ne_t 49 rfl rfl (by decide) ?_
      refine p_iload 50 rfl rfl rfl ?_
      refine p_const 52 rfl rfl ?_
      refine p_ic_lt 55 65 rfl rfl rfl (fun c5 => ?_) (fun c5 => ?_)
      · skip
        refine p_aload 66 rfl rfl rfl ?_
        have kn : (tk L i).1 ≠ 0 := by rw [c4.1]; decide
        refine p_callv (le := [some (.inr (.inr 11)), none, none]) (as := [.inr (.inr 11)]) (rest := []) 69 0 0 0 0 rfl rfl (Nat.le_of_ble_eq_true rfl) rfl (Nat.le_of_ble_eq_true rfl) rfl rfl (Nat.le_of_ble_eq_true rfl) rfl (Nat.le_of_ble_eq_true rfl) rfl (Nat.le_refl _) (Nat.le_refl _) rfl rfl (tg_11 S) ?_
        refine advX S B (X.pp k0) C kn (fun y6 p6 S6 => ?_)
        have kp6 : Keep ppA h y6 := k0.trans (p6.1.wide avA_ppA)
        show Wp (e + 3) 0 0 M_X2_fact 69 [some (.inr (.inr 11)), some (.inl (o : Int)), some (.inl 1)] [] y6 _
        have CA := p6.2
        have YA := Y.av p6.1
        refine p_iload 70 rfl rfl rfl ?_
        refine p_if_ne_t 98 rfl rfl (by decide) ?_
        refine p_aload 99 rfl rfl rfl ?_
        refine p_iload 100 rfl rfl rfl ?_
        refine p_const 101 rfl rfl ?_
        refine p_iadd (z := (o : Int) + 1) 102 rfl rfl (w32_id ⟨(by omega), (by omega)⟩) ?_
        refine p_callv (le := [some (.inr (.inr 11)), some (.inl ((o : Int) + 1)), none]) (as := [.inr (.inr 11), .inl ((o : Int) + 1)]) (rest := []) 105 0 0 0 0 rfl rfl (Nat.le_of_ble_eq_true rfl) rfl (Nat.le_of_ble_eq_true rfl) rfl rfl (Nat.le_of_ble_eq_true rfl) rfl (Nat.le_of_ble_eq_true rfl) rfl (Nat.le_refl _) (Nat.le_refl _) rfl rfl (tg_11 S6) ?_
        refine (IH (i + 1) (Nat.lt_succ_self i)).2 (e + 2) (u - 1) (o + 1) _ _ P (by omega) (by show 3 * (u - 1) + 5 ≤ e + 2; omega) S6 (X.pp kp6) CA YA (by omega) (fun r7 y7 p7 S7 => ?_)
        have kp7 : Keep ppA h y7 := kp6.trans p7.1
        show Wp (e + 3) 0 0 M_X2_fact 105 [some (.inr (.inr 11)), some (.inl (o : Int)), some (.inl 1)] [.inl r7] y7 _
        refine p_if_ne 108 110 rfl rfl rfl (fun c8 => ?_) (fun c8 => ?_)
        · skip
          obtain ⟨_, r, dv, en⟩ := p7
          obtain ⟨j, c, er, C3, Y4⟩ := en.yes c8
          subst er
          have ln := dv.len1 (by decide)
          have lj := C3.1
          have l4 : (P ++ c.map tcf).length < 700 := by rw [List.length_append, List.length_map]; omega
          refine p_aload 111 rfl rfl rfl ?_
          refine p_const 113 rfl rfl ?_
          refine p_callv (le := [some (.inr (.inr 11)), some (.inl (-7))]) (as := [.inr (.inr 11), .inl (-7)]) (rest := []) 116 0 0 0 0 rfl rfl (Nat.le_of_ble_eq_true rfl) rfl (Nat.le_of_ble_eq_true rfl) rfl rfl (Nat.le_of_ble_eq_true rfl) rfl (Nat.le_of_ble_eq_true rfl) rfl (Nat.le_refl _) (Nat.le_refl _) rfl rfl (tg_11 S7) ?_
          refine x_emit S7 (-7) Y4 l4 (fun y9 p9 S9 => ?_)
          have kp9 : Keep ppA h y9 := kp7.trans (p9.1.wide emA_ppA)
          show Wp (e + 3) 0 0 M_X2_fact 116 [some (.inr (.inr 11)), some (.inl (o : Int)), some (.inl 1)] [] y9 _
          refine p_const 117 rfl rfl ?_
          refine p_zret rfl rfl (by decide) ?_
          -- leaf 2: answer [.inl 1] h=y9  kp9
          exact K 1 _ ⟨kp9, _, Dv.fNOk c4 (by omega) dv, rfl, C3.em p9.1, by rw [List.map_append, ← List.append_assoc]; exact p9.2⟩ S9
        · skip
          refine p_const 109 rfl rfl ?_
          refine p_zret rfl rfl (by decide) ?_
          -- leaf 3: answer [.inl 0] h=y7  kp7
          obtain ⟨_, r, dv, en⟩ := p7
          obtain ⟨kk, pp, er, a, b⟩ := en.no (by omega)
          subst er
          exact K 0 _ ⟨kp7, _, Dv.fNBad c4 (by omega) dv, rfl, a, b⟩ S7
      · skip
        refine p_aload 56 rfl rfl rfl ?_
        refine p_const 57 rfl rfl ?_
        refine p_aload 58 rfl rfl rfl ?_
        refine p_getfi (j := 3) (z := (tk L i).2.1) 61 rfl rfl rfl (tg_11 S) rfl C.2.2.2.1 ?_
        refine p_callv (le := [some (.inr (.inr 11)), some (.inl 3), some (.inl ((tk L i).2.1))]) (as := [.inr (.inr 11), .inl 3, .inl ((tk L i).2.1)]) (rest := []) 64 0 0 0 0 rfl rfl (Nat.le_of_ble_eq_true rfl) rfl (Nat.le_of_ble_eq_true rfl) rfl rfl (Nat.le_of_ble_eq_true rfl) rfl (Nat.le_of_ble_eq_true rfl) rfl (Nat.le_refl _) (Nat.le_refl _) rfl rfl (tg_11 S) ?_
        refine p_aload 1 rfl rfl rfl ?_
        refine p_iload 2 rfl rfl rfl ?_
        refine p_putfi (j := 6) 5 rfl rfl rfl (fun z => absurd z (by decide)) (tg_11 S) rfl ?_
        refine p_nmh (fun y10 e10 => ?_)
        have S10 : Shape y10 := by rw [e10]; exact S.svF ff_11_6 _
        have kp10 : Keep ppA h y10 := by rw [e10]; exact k0.sv rfl _
        refine p_aload 6 rfl rfl rfl ?_
        refine p_iload 7 rfl rfl rfl ?_
        refine p_putfi (j := 7) 10 rfl rfl rfl (fun z => absurd z (by decide)) (tg_11 S10) rfl ?_
        refine p_nmh (fun y11 e11 => ?_)
        have S11 : Shape y11 := by rw [e11]; exact S10.svF ff_11_7 _
        have kp11 : Keep ppA h y11 := by rw [e11]; exact kp10.sv rfl _
        refine p_const 11 rfl rfl ?_
        refine p_zret rfl rfl (by decide) ?_
        show Wp (e + 3) 0 0 M_X2_fact 64 [some (.inr (.inr 11)), some (.inl (o : Int)), some (.inl 1)] [.inl 0] y11 _
        refine p_zret rfl rfl (by decide) ?_
        -- leaf 4: answer [.inl 0] h=y11 e11,e10 kp11
        exact K 0 _ ⟨kp11, _, Dv.fDeep (Or.inl c4) (by omega), rfl, by rw [e11, sv_nf (by decide), e10, sv_eq], by rw [e11, sv_eq]⟩ S11
    · show Wp (e + 3) 0 0 M_X2_fact 29 [some (.inr (.inr 11)), some (.inl (o : Int)), none] [.inl 0] h _
      refine p_istore (ls' := [some (.inr (.inr 11)), some (.inl (o : Int)), some (.inl 0)]) 30 rfl rfl (Nat.le_of_ble_eq_true rfl) rfl ?_
      refine p_iload 31 rfl rfl rfl ?_
      refine p_if_ne_f 34 rfl rfl (by decide) ?_
      refine p_aload 35 rfl rfl rfl ?_
      refine p_const 37 rfl rfl ?_
      refine p_callv (le := [some (.inr (.inr 11)), some (.inl 91)]) (as := [.inr (.inr 11), .inl 91]) (rest := []) 40 0 0 0 0 rfl rfl (Nat.le_of_ble_eq_true rfl) rfl (Nat.le_of_ble_eq_true rfl) rfl rfl (Nat.le_of_ble_eq_true rfl) rfl (Nat.le_of_ble_eq_true rfl) rfl (Nat.le_refl _) (Nat.le_refl _) rfl rfl (tg_11 S) ?_
      refine isSignX S 91 C (fun c12 => ?_) (fun c12 => ?_)
      · show Wp (e + 3) 0 0 M_X2_fact 40 [some (.inr (.inr 11)), some (.inl (o : Int)), some (.inl 0)] [.inl 1] h _
        refine p_if_ne_t 49 rfl rfl (by decide) ?_
        refine p_iload 50 rfl rfl rfl ?_
        refine p_const 52 rfl rfl ?_
        refine p_ic_lt 55 65 rfl rfl rfl (fun c13 => ?_) (fun c13 => ?_)
        · skip
          refine p_aload 66 rfl rfl rfl ?_
          have kn : (tk L i).1 ≠ 0 := by rw [c12.1]; decide
          refine p_callv (le := [some (.inr (.inr 11)), none, none]) (as := [.inr (.inr 11)]) (rest := []) 69 0 0 0 0 rfl rfl (Nat.le_of_ble_eq_true rfl) rfl (Nat.le_of_ble_eq_true rfl) rfl rfl (Nat.le_of_ble_eq_true rfl) rfl (Nat.le_of_ble_eq_true rfl) rfl (Nat.le_refl _) (Nat.le_refl _) rfl rfl (tg_11 S) ?_
          refine advX S B (X.pp k0) C kn (fun y14 p14 S14 => ?_)
          have kp14 : Keep ppA h y14 := k0.trans (p14.1.wide avA_ppA)
          show Wp (e + 3) 0 0 M_X2_fact 69 [some (.inr (.inr 11)), some (.inl (o : Int)), some (.inl 0)] [] y14 _
          have CA := p14.2
          have YA := Y.av p14.1
          refine p_iload 70 rfl rfl rfl ?_
          refine p_if_ne_f 73 rfl rfl (by decide) ?_
          refine p_aload 74 rfl rfl rfl ?_
          refine p_iload 75 rfl rfl rfl ?_
          refine p_const 76 rfl rfl ?_
          refine p_iadd (z := (o : Int) + 1) 77 rfl rfl (w32_id ⟨(by omega), (by omega)⟩) ?_
          refine p_callv (le := [some (.inr (.inr 11)), some (.inl ((o : Int) + 1)), none]) (as := [.inr (.inr 11), .inl ((o : Int) + 1)]) (rest := []) 80 0 0 0 0 rfl rfl (Nat.le_of_ble_eq_true rfl) rfl (Nat.le_of_ble_eq_true rfl) rfl rfl (Nat.le_of_ble_eq_true rfl) rfl (Nat.le_of_ble_eq_true rfl) rfl (Nat.le_refl _) (Nat.le_refl _) rfl rfl (tg_11 S14) ?_
          refine (IH (i + 1) (Nat.lt_succ_self i)).1 (e + 2) (u - 1) (o + 1) _ _ P (by omega) (by show 3 * (u - 1) + 7 ≤ e + 2; omega) S14 (X.pp kp14) CA YA (by omega) (fun r15 y15 p15 S15 => ?_)
          have kp15 : Keep ppA h y15 := kp14.trans p15.1
          show Wp (e + 3) 0 0 M_X2_fact 80 [some (.inr (.inr 11)), some (.inl (o : Int)), some (.inl 0)] [.inl r15] y15 _
          refine p_if_eq 83 96 rfl rfl rfl (fun c16 => ?_) (fun c16 => ?_)
          · skip
            refine p_const 97 rfl rfl ?_
            refine p_zret rfl rfl (by decide) ?_
            -- leaf 5: answer [.inl 0] h=y15  kp15
            obtain ⟨_, r, dv, en⟩ := p15
            obtain ⟨kk, pp, er, a, b⟩ := en.no c16
            subst er
            exact K 0 _ ⟨kp15, _, Dv.fSBad c12 (by omega) dv, rfl, a, b⟩ S15
          · skip
            obtain ⟨_, r, dv, en⟩ := p15
            obtain ⟨j, c, er, C5, Y5⟩ := en.yes c16
            subst er
            refine p_aload 84 rfl rfl rfl ?_
            refine p_const 86 rfl rfl ?_
            refine p_callv (le := [some (.inr (.inr 11)), some (.inl 93)]) (as := [.inr (.inr 11), .inl 93]) (rest := []) 89 0 0 0 0 rfl rfl (Nat.le_of_ble_eq_true rfl) rfl (Nat.le_of_ble_eq_true rfl) rfl rfl (Nat.le_of_ble_eq_true rfl) rfl (Nat.le_of_ble_eq_true rfl) rfl (Nat.le_refl _) (Nat.le_refl _) rfl rfl (tg_11 S15) ?_
            refine takeSignX (by omega) S15 93 B (X.pp kp15) C5 (fun r17 y17 p17 S17 => ?_)
            have kp17 : Keep ppA h y17 := kp15.trans (p17.1.wide tsA_ppA)
            show Wp (e + 3) 0 0 M_X2_fact 89 [some (.inr (.inr 11)), some (.inl (o : Int)), some (.inl 0)] [.inl r17] y17 _
            refine p_if_eq 92 96 rfl rfl rfl (fun c18 => ?_) (fun c18 => ?_)
            · skip
              refine p_const 97 rfl rfl ?_
              refine p_zret rfl rfl (by decide) ?_
              -- leaf 6: answer [.inl 0] h=y17  kp17
              rcases p17.2 with ⟨z, _⟩ | ⟨_, n, a, b⟩
              · omega
              · exact K 0 _ ⟨kp17, _, Dv.fSNo c12 (by omega) dv n, rfl, a, b⟩ S17
            · skip
              refine p_const 93 rfl rfl ?_
              refine p_goto 97 rfl rfl ?_
              refine p_zret rfl rfl (by decide) ?_
              -- leaf 7: answer [.inl 1] h=y17  kp17
              rcases p17.2 with ⟨_, n, C7⟩ | ⟨z, _⟩
              · exact K 1 _ ⟨kp17, _, Dv.fSOk c12 (by omega) dv n, rfl, C7, Y5.ts p17.1⟩ S17
              · omega
        · skip
          refine p_aload 56 rfl rfl rfl ?_
          refine p_const 57 rfl rfl ?_
          refine p_aload 58 rfl rfl rfl ?_
          refine p_getfi (j := 3) (z := (tk L i).2.1) 61 rfl rfl rfl (tg_11 S) rfl C.2.2.2.1 ?_
          refine p_callv (le := [some (.inr (.inr 11)), some (.inl 3), some (.inl ((tk L i).2.1))]) (as := [.inr (.inr 11), .inl 3, .inl ((tk L i).2.1)]) (rest := []) 64 0 0 0 0 rfl rfl (Nat.le_of_ble_eq_true rfl) rfl (Nat.le_of_ble_eq_true rfl) rfl rfl (Nat.le_of_ble_eq_true rfl) rfl (Nat.le_of_ble_eq_true rfl) rfl (Nat.le_refl _) (Nat.le_refl _) rfl rfl (tg_11 S) ?_
          refine p_aload 1 rfl rfl rfl ?_
          refine p_iload 2 rfl rfl rfl ?_
          refine p_putfi (j := 6) 5 rfl rfl rfl (fun z => absurd z (by decide)) (tg_11 S) rfl ?_
          refine p_nmh (fun y19 e19 => ?_)
          have S19 : Shape y19 := by rw [e19]; exact S.svF ff_11_6 _
          have kp19 : Keep ppA h y19 := by rw [e19]; exact k0.sv rfl _
          refine p_aload 6 rfl rfl rfl ?_
          refine p_iload 7 rfl rfl rfl ?_
          refine p_putfi (j := 7) 10 rfl rfl rfl (fun z => absurd z (by decide)) (tg_11 S19) rfl ?_
          refine p_nmh (fun y20 e20 => ?_)
          have S20 : Shape y20 := by rw [e20]; exact S19.svF ff_11_7 _
          have kp20 : Keep ppA h y20 := by rw [e20]; exact kp19.sv rfl _
          refine p_const 11 rfl rfl ?_
          refine p_zret rfl rfl (by decide) ?_
          show Wp (e + 3) 0 0 M_X2_fact 64 [some (.inr (.inr 11)), some (.inl (o : Int)), some (.inl 0)] [.inl 0] y20 _
          refine p_zret rfl rfl (by decide) ?_
          -- leaf 8: answer [.inl 0] h=y20 e20,e19 kp20
          exact K 0 _ ⟨kp20, _, Dv.fDeep (Or.inr c12) (by omega), rfl, by rw [e20, sv_nf (by decide), e19, sv_eq], by rw [e20, sv_eq]⟩ S20
      · show Wp (e + 3) 0 0 M_X2_fact 40 [some (.inr (.inr 11)), some (.inl (o : Int)), some (.inl 0)] [.inl 0] h _
        refine p_if_ne_f 43 rfl rfl (by decide) ?_
        refine p_aload 44 rfl rfl rfl ?_
        refine p_iload 45 rfl rfl rfl ?_
        refine p_callv (le := [some (.inr (.inr 11)), some (.inl (o : Int)), none]) (as := [.inr (.inr 11), .inl (o : Int)]) (rest := []) 48 0 0 0 0 rfl rfl (Nat.le_of_ble_eq_true rfl) rfl (Nat.le_of_ble_eq_true rfl) rfl rfl (Nat.le_of_ble_eq_true rfl) rfl (Nat.le_of_ble_eq_true rfl) rfl (Nat.le_refl _) (Nat.le_refl _) rfl rfl (tg_11 S) ?_
        refine HC (e + 2) u o _ _ P ou (by show 2 * u + 4 ≤ e + 2; omega) S X C Y pl (fun r21 y21 p21 S21 => ?_)
        have kp21 : Keep ppA h y21 := k0.trans p21.1
        show Wp (e + 3) 0 0 M_X2_fact 48 [some (.inr (.inr 11)), some (.inl (o : Int)), some (.inl 0)] [.inl r21] y21 _
        obtain ⟨_, r, dv, en⟩ := p21
        have r01 := en.r01
        refine p_zret rfl rfl (by omega) ?_
        -- leaf 9: answer [.inl r21] h=y21  kp21
        exact K _ _ ⟨kp21, r, Dv.fComp c1 c4 c12 dv, en⟩ S21
theorem bothX {L : List Tok} {i : Nat} (B : TL L) (HF : ∀ i', i ≤ i' → ClX L Wfact (fun u => 3 * u + 5) 4 i') : ClX L Wboth (fun u => 3 * u + 6) 5 i := by
  intro dd u o h q P ou hd S X C Y pl K
  show Wp dd 0 0 M_X2_both 0 [some (.inr (.inr 11)), some (.inl o), none] [] h q
  have hd : 3 * u + 6 ≤ dd := hd
  obtain ⟨e, rfl⟩ : ∃ e, dd = e + 2 := ⟨dd - 2, by omega⟩
  have k0 := Keep.rf ppA h
  have J12 : ∀ (c j it : Nat) (acc : List Int) (h1 : PH), L.length - j ≤ c → i < j → acc.length + i ≤ j → it ≤ j → Shape h1 → Keep ppA h h1 → CurX h1 L j → PrX h1 (P ++ acc.map tcf) → (∀ r, Dv L 6 acc o j r → Dv L 5 [] o i r) →
      Wp (e + 2) 0 0 M_X2_both 12 [some (.inr (.inr 11)), some (.inl o), some (.inl it)] [] h1 q := by
    intro c
    induction c with
    | zero =>
      intro j it acc h1 hc
      intro _ _ _ _ _ C1
      exact absurd C1.1 (by omega)
    | succ c ih =>
      intro j it acc h1 hc ij al itj S1 k1 C1 Y1 sub
      have done : ¬ isWd L j 1476 → q (some (.inl 1)) h1 := fun z => K 1 h1 ⟨k1, _, sub _ (Dv.blEnd z), rfl, C1, Y1⟩ S1
      have pa : (P ++ acc.map tcf).length = P.length + acc.length := by rw [List.length_append, List.length_map]
      refine p_iload 13 rfl rfl rfl ?_
      refine p_const 16 rfl rfl ?_
      refine p_ic_ge 19 55 rfl rfl rfl (fun c1 => ?_) (fun c1 => ?_)
      · skip
        refine p_const 56 rfl rfl ?_
        refine p_zret rfl rfl (by decide) ?_
        -- leaf 1: answer [.inl 1] h=h1  k1
        exact done (fun z => by have := B.last C1.1 (by omega); rw [z.1] at this; omega)
      · skip
        refine p_aload 20 rfl rfl rfl ?_
        refine p_const 23 rfl rfl ?_
        refine p_callv (le := [some (.inr (.inr 11)), some (.inl 1476)]) (as := [.inr (.inr 11), .inl 1476]) (rest := []) 26 0 0 0 0 rfl rfl (Nat.le_of_ble_eq_true rfl) rfl (Nat.le_of_ble_eq_true rfl) rfl rfl (Nat.le_of_ble_eq_true rfl) rfl (Nat.le_of_ble_eq_true rfl) rfl (Nat.le_refl _) (Nat.le_refl _) rfl rfl (tg_11 S1) ?_
        refine isWordX S1 1476 C1 (fun c2 => ?_) (fun c2 => ?_)
        · show Wp (e + 2) 0 0 M_X2_both 26 [some (.inr (.inr 11)), some (.inl (o : Int)), some (.inl (it : Int))] [.inl 1] h1 _
          refine p_if_eq_f 29 rfl rfl (by decide) ?_
          have kn : (tk L j).1 ≠ 0 := by rw [c2.1]; decide
          refine p_aload 30 rfl rfl rfl ?_
          refine p_callv (le := [some (.inr (.inr 11)), none, none]) (as := [.inr (.inr 11)]) (rest := []) 33 0 0 0 0 rfl rfl (Nat.le_of_ble_eq_true rfl) rfl (Nat.le_of_ble_eq_true rfl) rfl rfl (Nat.le_of_ble_eq_true rfl) rfl (Nat.le_of_ble_eq_true rfl) rfl (Nat.le_refl _) (Nat.le_refl _) rfl rfl (tg_11 S1) ?_
          refine advX S1 B (X.pp k1) C1 kn (fun y3 p3 S3 => ?_)
          have kp3 : Keep ppA h y3 := k1.trans (p3.1.wide avA_ppA)
          show Wp (e + 2) 0 0 M_X2_both 33 [some (.inr (.inr 11)), some (.inl (o : Int)), some (.inl (it : Int))] [] y3 _
          have CA := p3.2
          have YA := Y1.av p3.1
          refine p_aload 34 rfl rfl rfl ?_
          refine p_iload 35 rfl rfl rfl ?_
          refine p_callv (le := [some (.inr (.inr 11)), some (.inl (o : Int)), none]) (as := [.inr (.inr 11), .inl (o : Int)]) (rest := []) 38 0 0 0 0 rfl rfl (Nat.le_of_ble_eq_true rfl) rfl (Nat.le_of_ble_eq_true rfl) rfl rfl (Nat.le_of_ble_eq_true rfl) rfl (Nat.le_of_ble_eq_true rfl) rfl (Nat.le_refl _) (Nat.le_refl _) rfl rfl (tg_11 S3) ?_
          refine HF (j + 1) (by omega) (e + 1) u o _ _ (P ++ acc.map tcf) ou (by show 3 * u + 5 ≤ e + 1; omega) S3 (X.pp kp3) CA YA (by omega) (fun r4 y4 p4 S4 => ?_)
          have kp4 : Keep ppA h y4 := kp3.trans p4.1
          show Wp (e + 2) 0 0 M_X2_both 38 [some (.inr (.inr 11)), some (.inl (o : Int)), some (.inl (it : Int))] [.inl r4] y4 _
          refine p_if_ne 41 43 rfl rfl rfl (fun c5 => ?_) (fun c5 => ?_)
          · skip
            obtain ⟨_, r, dv, en⟩ := p4
            obtain ⟨j', c', er, C3, Y4⟩ := en.yes c5
            subst er
            have ln := dv.len1 (by decide)
            have lj := C3.1
            have l7 := B.1
            have l4 : (P ++ acc.map tcf ++ c'.map tcf).length < 700 := by rw [List.length_append, List.length_map, pa]; omega
            refine p_aload 44 rfl rfl rfl ?_
            refine p_const 46 rfl rfl ?_
            refine p_callv (le := [some (.inr (.inr 11)), some (.inl (-14))]) (as := [.inr (.inr 11), .inl (-14)]) (rest := []) 49 0 0 0 0 rfl rfl (Nat.le_of_ble_eq_true rfl) rfl (Nat.le_of_ble_eq_true rfl) rfl rfl (Nat.le_of_ble_eq_true rfl) rfl (Nat.le_of_ble_eq_true rfl) rfl (Nat.le_refl _) (Nat.le_refl _) rfl rfl (tg_11 S4) ?_
            refine x_emit S4 (-14) Y4 l4 (fun y6 p6 S6 => ?_)
            have kp6 : Keep ppA h y6 := kp4.trans (p6.1.wide emA_ppA)
            show Wp (e + 2) 0 0 M_X2_both 49 [some (.inr (.inr 11)), some (.inl (o : Int)), some (.inl (it : Int))] [] y6 _
            refine p_iinc (y := (it : Int) + 1) (ls' := [some (.inr (.inr 11)), some (.inl (o : Int)), some (.inl ((it : Int) + 1))]) 52 rfl rfl rfl (w32_id ⟨(by omega), (by omega)⟩) rfl ?_
            refine p_goto 12 rfl rfl ?_
            -- leaf 2: loop 12 [some (.inr (.inr 11)), some (.inl (o : Int)), some (.inl ((it : Int) + 1))] st=[] h=y6  kp6
            refine ih j' (it + 1) (acc ++ c' ++ [14]) _ (by omega) (by omega) ?_ (by omega) S6 kp6 (C3.em p6.1) ?_ (fun r dr => sub r (Dv.blGo c2 dv dr))
            · rw [List.length_append, List.length_append]; show acc.length + c'.length + 1 + i ≤ j'; omega
            · rw [List.map_append, List.map_append, ← List.append_assoc, ← List.append_assoc]; exact p6.2
          · skip
            refine p_const 42 rfl rfl ?_
            refine p_zret rfl rfl (by decide) ?_
            -- leaf 3: answer [.inl 0] h=y4  kp4
            obtain ⟨_, r, dv, en⟩ := p4
            obtain ⟨kk, pp, er, a, b⟩ := en.no (by omega)
            subst er
            exact K 0 _ ⟨kp4, _, sub _ (Dv.blBad c2 dv), rfl, a, b⟩ S4
        · show Wp (e + 2) 0 0 M_X2_both 26 [some (.inr (.inr 11)), some (.inl (o : Int)), some (.inl (it : Int))] [.inl 0] h1 _
          refine p_if_eq_t 55 rfl rfl (by decide) ?_
          refine p_const 56 rfl rfl ?_
          refine p_zret rfl rfl (by decide) ?_
          -- leaf 4: answer [.inl 1] h=h1  k1
          exact done c2
  refine p_aload 1 rfl rfl rfl ?_
  refine p_iload 2 rfl rfl rfl ?_
  refine p_callv (le := [some (.inr (.inr 11)), some (.inl (o : Int)), none]) (as := [.inr (.inr 11), .inl (o : Int)]) (rest := []) 5 0 0 0 0 rfl rfl (Nat.le_of_ble_eq_true rfl) rfl (Nat.le_of_ble_eq_true rfl) rfl rfl (Nat.le_of_ble_eq_true rfl) rfl (Nat.le_of_ble_eq_true rfl) rfl (Nat.le_refl _) (Nat.le_refl _) rfl rfl (tg_11 S) ?_
  refine HF i (Nat.le_refl i) (e + 1) u o _ _ P ou (by show 3 * u + 5 ≤ e + 1; omega) S X C Y pl (fun r1 y1 p1 S1 => ?_)
  have kp1 : Keep ppA h y1 := k0.trans p1.1
  show Wp (e + 2) 0 0 M_X2_both 5 [some (.inr (.inr 11)), some (.inl (o : Int)), none] [.inl r1] y1 _
  refine p_if_ne 8 10 rfl rfl rfl (fun c2 => ?_) (fun c2 => ?_)
  · skip
    refine p_const 11 rfl rfl ?_
    refine p_istore (ls' := [some (.inr (.inr 11)), some (.inl (o : Int)), some (.inl 0)]) 12 rfl rfl (Nat.le_of_ble_eq_true rfl) rfl ?_
    -- leaf 1: loop 12 [some (.inr (.inr 11)), some (.inl (o : Int)), some (.inl 0)] st=[] h=y1  kp1
    obtain ⟨_, r, dv, en⟩ := p1
    obtain ⟨j, c, er, C1, Y1⟩ := en.yes c2
    subst er
    have ln := dv.len1 (by decide)
    exact J12 L.length j 0 c _ (by omega) ln.1 ln.2 (Nat.zero_le _) S1 kp1 C1 Y1 (fun r dr => Dv.bGo dv dr)
  · skip
    refine p_const 9 rfl rfl ?_
    refine p_zret rfl rfl (by decide) ?_
    -- leaf 2: answer [.inl 0] h=y1  kp1
    obtain ⟨_, r, dv, en⟩ := p1
    obtain ⟨kk, pp, er, a, b⟩ := en.no (by omega)
    subst er
    exact K 0 _ ⟨kp1, _, Dv.bBad dv, rfl, a, b⟩ S1
theorem testX {L : List Tok} {i : Nat} (B : TL L) (HF : ∀ i', i ≤ i' → ClX L Wboth (fun u => 3 * u + 6) 5 i') : ClX L Wtest (fun u => 3 * u + 7) 7 i := by
  intro dd u o h q P ou hd S X C Y pl K
  show Wp dd 0 0 M_X2_test 0 [some (.inr (.inr 11)), some (.inl o), none] [] h q
  have hd : 3 * u + 7 ≤ dd := hd
  obtain ⟨e, rfl⟩ : ∃ e, dd = e + 2 := ⟨dd - 2, by omega⟩
  have k0 := Keep.rf ppA h
  have J12 : ∀ (c j it : Nat) (acc : List Int) (h1 : PH), L.length - j ≤ c → i < j → acc.length + i ≤ j → it ≤ j → Shape h1 → Keep ppA h h1 → CurX h1 L j → PrX h1 (P ++ acc.map tcf) → (∀ r, Dv L 8 acc o j r → Dv L 7 [] o i r) →
      Wp (e + 2) 0 0 M_X2_test 12 [some (.inr (.inr 11)), some (.inl o), some (.inl it)] [] h1 q := by
    intro c
    induction c with
    | zero =>
      intro j it acc h1 hc
      intro _ _ _ _ _ C1
      exact absurd C1.1 (by omega)
    | succ c ih =>
      intro j it acc h1 hc ij al itj S1 k1 C1 Y1 sub
      have done : ¬ isWd L j 498 → q (some (.inl 1)) h1 := fun z => K 1 h1 ⟨k1, _, sub _ (Dv.tlEnd z), rfl, C1, Y1⟩ S1
      have pa : (P ++ acc.map tcf).length = P.length + acc.length := by rw [List.length_append, List.length_map]
      refine p_iload 13 rfl rfl rfl ?_
      refine p_const 16 rfl rfl ?_
      refine p_ic_ge 19 55 rfl rfl rfl (fun c1 => ?_) (fun c1 => ?_)
      · skip
        refine p_const 56 rfl rfl ?_
        refine p_zret rfl rfl (by decide) ?_
        -- leaf 1: answer [.inl 1] h=h1  k1
        exact done (fun z => by have := B.last C1.1 (by omega); rw [z.1] at this; omega)
      · skip
        refine p_aload 20 rfl rfl rfl ?_
        refine p_const 23 rfl rfl ?_
        refine p_callv (le := [some (.inr (.inr 11)), some (.inl 498)]) (as := [.inr (.inr 11), .inl 498]) (rest := []) 26 0 0 0 0 rfl rfl (Nat.le_of_ble_eq_true rfl) rfl (Nat.le_of_ble_eq_true rfl) rfl rfl (Nat.le_of_ble_eq_true rfl) rfl (Nat.le_of_ble_eq_true rfl) rfl (Nat.le_refl _) (Nat.le_refl _) rfl rfl (tg_11 S1) ?_
        refine isWordX S1 498 C1 (fun c2 => ?_) (fun c2 => ?_)
        · show Wp (e + 2) 0 0 M_X2_test 26 [some (.inr (.inr 11)), some (.inl (o : Int)), some (.inl (it : Int))] [.inl 1] h1 _
          refine p_if_eq_f 29 rfl rfl (by decide) ?_
          have kn : (tk L j).1 ≠ 0 := by rw [c2.1]; decide
          refine p_aload 30 rfl rfl rfl ?_
          refine p_callv (le := [some (.inr (.inr 11)), none, none]) (as := [.inr (.inr 11)]) (rest := []) 33 0 0 0 0 rfl rfl (Nat.le_of_ble_eq_true rfl) rfl (Nat.le_of_ble_eq_true rfl) rfl rfl (Nat.le_of_ble_eq_true rfl) rfl (Nat.le_of_ble_eq_true rfl) rfl (Nat.le_refl _) (Nat.le_refl _) rfl rfl (tg_11 S1) ?_
          refine advX S1 B (X.pp k1) C1 kn (fun y3 p3 S3 => ?_)
          have kp3 : Keep ppA h y3 := k1.trans (p3.1.wide avA_ppA)
          show Wp (e + 2) 0 0 M_X2_test 33 [some (.inr (.inr 11)), some (.inl (o : Int)), some (.inl (it : Int))] [] y3 _
          have CA := p3.2
          have YA := Y1.av p3.1
          refine p_aload 34 rfl rfl rfl ?_
          refine p_iload 35 rfl rfl rfl ?_
          refine p_callv (le := [some (.inr (.inr 11)), some (.inl (o : Int)), none]) (as := [.inr (.inr 11), .inl (o : Int)]) (rest := []) 38 0 0 0 0 rfl rfl (Nat.le_of_ble_eq_true rfl) rfl (Nat.le_of_ble_eq_true rfl) rfl rfl (Nat.le_of_ble_eq_true rfl) rfl (Nat.le_of_ble_eq_true rfl) rfl (Nat.le_refl _) (Nat.le_refl _) rfl rfl (tg_11 S3) ?_
          refine HF (j + 1) (by omega) (e + 1) u o _ _ (P ++ acc.map tcf) ou (by show 3 * u + 6 ≤ e + 1; omega) S3 (X.pp kp3) CA YA (by omega) (fun r4 y4 p4 S4 => ?_)
          have kp4 : Keep ppA h y4 := kp3.trans p4.1
          show Wp (e + 2) 0 0 M_X2_test 38 [some (.inr (.inr 11)), some (.inl (o : Int)), some (.inl (it : Int))] [.inl r4] y4 _
          refine p_if_ne 41 43 rfl rfl rfl (fun c5 => ?_) (fun c5 => ?_)
          · skip
            obtain ⟨_, r, dv, en⟩ := p4
            obtain ⟨j', c', er, C3, Y4⟩ := en.yes c5
            subst er
            have ln := dv.len1 (by decide)
            have lj := C3.1
            have l7 := B.1
            have l4 : (P ++ acc.map tcf ++ c'.map tcf).length < 700 := by rw [List.length_append, List.length_map, pa]; omega
            refine p_aload 44 rfl rfl rfl ?_
            refine p_const 46 rfl rfl ?_
            refine p_callv (le := [some (.inr (.inr 11)), some (.inl (-15))]) (as := [.inr (.inr 11), .inl (-15)]) (rest := []) 49 0 0 0 0 rfl rfl (Nat.le_of_ble_eq_true rfl) rfl (Nat.le_of_ble_eq_true rfl) rfl rfl (Nat.le_of_ble_eq_true rfl) rfl (Nat.le_of_ble_eq_true rfl) rfl (Nat.le_refl _) (Nat.le_refl _) rfl rfl (tg_11 S4) ?_
            refine x_emit S4 (-15) Y4 l4 (fun y6 p6 S6 => ?_)
            have kp6 : Keep ppA h y6 := kp4.trans (p6.1.wide emA_ppA)
            show Wp (e + 2) 0 0 M_X2_test 49 [some (.inr (.inr 11)), some (.inl (o : Int)), some (.inl (it : Int))] [] y6 _
            refine p_iinc (y := (it : Int) + 1) (ls' := [some (.inr (.inr 11)), some (.inl (o : Int)), some (.inl ((it : Int) + 1))]) 52 rfl rfl rfl (w32_id ⟨(by omega), (by omega)⟩) rfl ?_
            refine p_goto 12 rfl rfl ?_
            -- leaf 2: loop 12 [some (.inr (.inr 11)), some (.inl (o : Int)), some (.inl ((it : Int) + 1))] st=[] h=y6  kp6
            refine ih j' (it + 1) (acc ++ c' ++ [15]) _ (by omega) (by omega) ?_ (by omega) S6 kp6 (C3.em p6.1) ?_ (fun r dr => sub r (Dv.tlGo c2 dv dr))
            · rw [List.length_append, List.length_append]; show acc.length + c'.length + 1 + i ≤ j'; omega
            · rw [List.map_append, List.map_append, ← List.append_assoc, ← List.append_assoc]; exact p6.2
          · skip
            refine p_const 42 rfl rfl ?_
            refine p_zret rfl rfl (by decide) ?_
            -- leaf 3: answer [.inl 0] h=y4  kp4
            obtain ⟨_, r, dv, en⟩ := p4
            obtain ⟨kk, pp, er, a, b⟩ := en.no (by omega)
            subst er
            exact K 0 _ ⟨kp4, _, sub _ (Dv.tlBad c2 dv), rfl, a, b⟩ S4
        · show Wp (e + 2) 0 0 M_X2_test 26 [some (.inr (.inr 11)), some (.inl (o : Int)), some (.inl (it : Int))] [.inl 0] h1 _
          refine p_if_eq_t 55 rfl rfl (by decide) ?_
          refine p_const 56 rfl rfl ?_
          refine p_zret rfl rfl (by decide) ?_
          -- leaf 4: answer [.inl 1] h=h1  k1
          exact done c2
  refine p_aload 1 rfl rfl rfl ?_
  refine p_iload 2 rfl rfl rfl ?_
  refine p_callv (le := [some (.inr (.inr 11)), some (.inl (o : Int)), none]) (as := [.inr (.inr 11), .inl (o : Int)]) (rest := []) 5 0 0 0 0 rfl rfl (Nat.le_of_ble_eq_true rfl) rfl (Nat.le_of_ble_eq_true rfl) rfl rfl (Nat.le_of_ble_eq_true rfl) rfl (Nat.le_of_ble_eq_true rfl) rfl (Nat.le_refl _) (Nat.le_refl _) rfl rfl (tg_11 S) ?_
  refine HF i (Nat.le_refl i) (e + 1) u o _ _ P ou (by show 3 * u + 6 ≤ e + 1; omega) S X C Y pl (fun r1 y1 p1 S1 => ?_)
  have kp1 : Keep ppA h y1 := k0.trans p1.1
  show Wp (e + 2) 0 0 M_X2_test 5 [some (.inr (.inr 11)), some (.inl (o : Int)), none] [.inl r1] y1 _
  refine p_if_ne 8 10 rfl rfl rfl (fun c2 => ?_) (fun c2 => ?_)
  · skip
    refine p_const 11 rfl rfl ?_
    refine p_istore (ls' := [some (.inr (.inr 11)), some (.inl (o : Int)), some (.inl 0)]) 12 rfl rfl (Nat.le_of_ble_eq_true rfl) rfl ?_
    -- leaf 1: loop 12 [some (.inr (.inr 11)), some (.inl (o : Int)), some (.inl 0)] st=[] h=y1  kp1
    obtain ⟨_, r, dv, en⟩ := p1
    obtain ⟨j, c, er, C1, Y1⟩ := en.yes c2
    subst er
    have ln := dv.len1 (by decide)
    exact J12 L.length j 0 c _ (by omega) ln.1 ln.2 (Nat.zero_le _) S1 kp1 C1 Y1 (fun r dr => Dv.tGo dv dr)
  · skip
    refine p_const 9 rfl rfl ?_
    refine p_zret rfl rfl (by decide) ?_
    -- leaf 2: answer [.inl 0] h=y1  kp1
    obtain ⟨_, r, dv, en⟩ := p1
    obtain ⟨kk, pp, er, a, b⟩ := en.no (by omega)
    subst er
    exact K 0 _ ⟨kp1, _, Dv.tBad dv, rfl, a, b⟩ S1
/-- every method of the reader, at every token -/
theorem allX {L : List Tok} (B : TL L) : ∀ (c i : Nat), L.length - i ≤ c → ClX L Wpart (fun u => 2 * u + 2) 0 i ∧ ClX L Wsum (fun u => 2 * u + 3) 1 i ∧ ClX L Wfact (fun u => 3 * u + 5) 4 i ∧ ClX L Wboth (fun u => 3 * u + 6) 5 i ∧ ClX L Wtest (fun u => 3 * u + 7) 7 i := by
  intro c
  induction c with
  | zero =>
    intro i hi
    have no : ∀ (W : WX) (f : Nat → Nat) (m : Nat), ClX L W f m i := fun W f m => by
      intro dd u o h q P ou hd S X C
      exact absurd C.1 (by omega)
    exact ⟨no _ _ _, no _ _ _, no _ _ _, no _ _ _, no _ _ _⟩
  | succ c ih =>
    intro i hi
    have up : ∀ i', i < i' → ClX L Wpart (fun u => 2 * u + 2) 0 i' ∧ ClX L Wsum (fun u => 2 * u + 3) 1 i' ∧ ClX L Wfact (fun u => 3 * u + 5) 4 i' ∧ ClX L Wboth (fun u => 3 * u + 6) 5 i' ∧ ClX L Wtest (fun u => 3 * u + 7) 7 i' := fun i' h => ih i' (by omega)
    have ge : ∀ (W : WX) (f : Nat → Nat) (m : Nat), ClX L W f m i → (∀ i', i < i' → ClX L W f m i') → ∀ i', i ≤ i' → ClX L W f m i' := fun W f m a b i' h => by
      by_cases z : i' = i
      · rw [z]; exact a
      · exact b i' (by omega)
    have h0 := partX B (fun i' h => (up i' h).2.1)
    have h1 := sumX B (ge _ _ _ h0 (fun i' h => (up i' h).1))
    have h3 := compX B (ge _ _ _ h1 (fun i' h => (up i' h).2.1))
    have h4 := factX B h3 (fun i' h => ⟨(up i' h).2.2.2.2, (up i' h).2.2.1⟩)
    have h5 := bothX B (ge _ _ _ h4 (fun i' h => (up i' h).2.2.1))
    have h7 := testX B (ge _ _ _ h5 (fun i' h => (up i' h).2.2.2.1))
    exact ⟨h0, h1, h4, h5, h7⟩

