/-! TAKEN, the class's side -/
def nmF (N : Int → Int) (n id : Int) : Int := if 0 ≤ id ∧ id < n then N id else 0
/-- name c from the end, or 0 -/
def nEnd (N : Int → Int) (A : List Int) (c : Nat) : Int := if c ≤ A.length then N (A.getD (A.length - c) 0) else 0
theorem nEnd_iff {f g : Int → Int} {A B : List Int} (a4 : A.length ≤ 4) (b4 : B.length ≤ 4) (fa : ∀ x ∈ A, 1 ≤ f x) (gb : ∀ x ∈ B, 1 ≤ g x) : (∀ c : Nat, 1 ≤ c → c ≤ 4 → nEnd f A c = nEnd g B c) ↔ A.map f = B.map g := by
  have at_ : ∀ (N : Int → Int) (L : List Int) (i : Nat) (hi : i < L.length), nEnd N L (L.length - i) = N L[i] := fun N L i hi => by
    unfold nEnd
    rw [if_pos (by omega), show L.length - (L.length - i) = i by omega, List.getD_eq_getElem?_getD, List.getElem?_eq_getElem hi]; rfl
  have big : ∀ (N : Int → Int) (L : List Int) (c : Nat), L.length < c → nEnd N L c = 0 := fun N L c hc => by unfold nEnd; rw [if_neg (by omega)]
  constructor
  · intro h
    have e : A.length = B.length := by
      rcases Nat.lt_trichotomy A.length B.length with z | z | z
      · have y := h B.length (by omega) b4
        have w := at_ g B 0 (by omega)
        rw [Nat.sub_zero] at w
        rw [big f A _ z, w] at y
        have := gb B[0] (List.getElem_mem _)
        omega
      · exact z
      · have y := h A.length (by omega) a4
        have w := at_ f A 0 (by omega)
        rw [Nat.sub_zero] at w
        rw [big g B _ z, w] at y
        have := fa A[0] (List.getElem_mem _)
        omega
    refine List.ext_getElem (by rw [List.length_map, List.length_map]; exact e) (fun i h1 h2 => ?_)
    rw [List.length_map] at h1 h2
    rw [List.getElem_map, List.getElem_map, ← at_ f A i h1, ← at_ g B i h2, ← e]
    exact h _ (by omega) (by omega)
  · intro h c c1 c4
    have e : A.length = B.length := by have := congrArg List.length h; rw [List.length_map, List.length_map] at this; exact this
    by_cases z : c ≤ A.length
    · have w1 := at_ f A (A.length - c) (by omega)
      have w2 := at_ g B (B.length - c) (by omega)
      rw [show A.length - (A.length - c) = c by omega] at w1
      rw [show B.length - (B.length - c) = c by omega] at w2
      rw [w1, w2]
      have y := congrArg (fun l => l[A.length - c]?) h
      simp only [List.getElem?_map] at y
      rw [List.getElem?_eq_getElem (by omega), List.getElem?_eq_getElem (by omega)] at y
      have y : some (f A[A.length - c]) = some (g (B[A.length - c]'(by omega))) := y
      simp only [← e]
      exact Option.some.inj y
    · rw [big f A c (by omega), big g B c (by omega)]
theorem x_nameOf {d : Nat} {h : PH} {q : PQ} (_S : Shape h) (a id : Int) {n pl : Int} (B : BkS h a n pl) (K : q (some (.inl (nmF (fun i => gv h (a + 1) i) (gv h a 0) id))) h) : Wp (d + 1) 0 0 M_X4_nameOf 0 [some (.inr (.inr a)), some (.inl id)] [] h q := by
  have e := B.f0
  unfold nmF at K
  refine p_iload 1 rfl rfl rfl ?_
  refine p_if_lt 4 21 rfl rfl rfl (fun c1 => ?_) (fun c1 => ?_)
  · skip
    refine p_const 22 rfl rfl ?_
    refine p_iret rfl rfl ?_
    -- leaf 1: answer [.inl 0] h=h 
    rw [if_neg (by omega)] at K; exact K
  · skip
    refine p_iload 5 rfl rfl rfl ?_
    refine p_aload 6 rfl rfl rfl ?_
    refine p_getfi (j := 0) (z := gv h a 0) 9 rfl rfl rfl B.tag rfl rfl ?_
    refine p_ic_ge 12 21 rfl rfl rfl (fun c2 => ?_) (fun c2 => ?_)
    · skip
      refine p_const 22 rfl rfl ?_
      refine p_iret rfl rfl ?_
      -- leaf 2: answer [.inl 0] h=h 
      rw [if_neg (by omega)] at K; exact K
    · skip
      refine p_aload 13 rfl rfl rfl ?_
      refine p_getfr (j := 1) (z := a + 1) 16 rfl rfl rfl B.tag rfl B.f1 ?_
      refine p_iload 17 rfl rfl rfl ?_
      refine p_iald (w := n) (z := gv h (a + 1) id) 18 rfl rfl (B.t1) (B.l1) (by omega) (by omega) rfl ?_
      refine p_goto 22 rfl rfl ?_
      refine p_iret rfl rfl ?_
      -- leaf 3: answer [.inl (gv h (a + 1) id)] h=h 
      rw [if_pos (by omega)] at K; exact K
theorem x_sameNames {d : Nat} {h : PH} {q : PQ} (S : Shape h) (a r b r' : Int) {n pl n' pl' : Int} {N N' : Int → Int} {A C : List Int} (B : BkS h a n pl) (B' : BkS h b n' pl') (hN : ∀ i, 0 ≤ i → i < n → gv h (a + 1) i = N i ∧ 1 ≤ N i) (hN' : ∀ i, 0 ≤ i → i < n' → gv h (b + 1) i = N' i ∧ 1 ≤ N' i)
    (okA : okl A) (okC : okl C) (inA : ∀ x ∈ A, x < n) (inC : ∀ x ∈ C, x < n') (hr : r = enc A) (hr' : r' = enc C) (K1 : A.map N = C.map N' → q (some (.inl 1)) h) (K2 : ¬ A.map N = C.map N' → q (some (.inl 0)) h) :
    Wp (d + 2) 0 0 M_X4_sameNames 0 [some (.inr (.inr a)), some (.inl r), some (.inr (.inr b)), some (.inl r'), none] [] h q := by
  have iff := nEnd_iff (f := N) (g := N') okA.1 okC.1 (fun x hx => (hN x (okA.2 x hx).1 (inA x hx)).2) (fun x hx => (hN' x (okC.2 x hx).1 (inC x hx)).2)
  rw [← iff] at K1 K2
  have NO : ∀ (b' id : Int) (q : PQ), (b' = a ∨ b' = b) → q (some (.inl (nmF (fun i => gv h (b' + 1) i) (gv h b' 0) id))) h → Wp (d + 1) 0 0 M_X4_nameOf 0 [some (.inr (.inr b')), some (.inl id)] [] h q := fun b' id q hb K => by
    rcases hb with rfl | rfl
    · exact x_nameOf S _ id B K
    · exact x_nameOf S _ id B' K
  have dig : ∀ {L : List Int} {M : Int → Int} {x m : Int}, okl L → (∀ i, 0 ≤ i → i < m → gv h (x + 1) i = M i ∧ 1 ≤ M i) → gv h x 0 = m → (∀ z ∈ L, z < m) → ∀ (c : Nat) (y : Int), y = 6 * (c : Int) → nmF (fun i => gv h (x + 1) i) (gv h x 0) (enc L / 2 ^ y.toNat % 64 - 1) = nEnd M L (c + 1) := fun {L M x m} ok hM h0 hin c y hy => by
    have dg := enc_dig ok (c + 1) (by omega)
    rw [show 6 * (c + 1 - 1) = y.toNat by omega] at dg
    unfold nmF nEnd
    rw [dg, h0]
    by_cases z : c + 1 ≤ L.length
    · have gx : L.getD (L.length - (c + 1)) 0 ∈ L := by
        rw [List.getD_eq_getElem?_getD, List.getElem?_eq_getElem (by omega)]; exact List.getElem_mem _
      have g1 := ok.2 _ gx
      have g2 := hin _ gx
      rw [if_pos z, if_pos z, if_pos (by omega), show L.getD (L.length - (c + 1)) 0 + 1 - 1 = L.getD (L.length - (c + 1)) 0 by omega]
      exact (hM _ g1.1 g2).1
    · rw [if_neg z, if_neg z, if_neg (by omega)]
  subst hr hr'
  have ea := enc_in okA
  have ec := enc_in okC
  have L : ∀ (k c : Nat) (y : Int), y = 6 * (c : Int) → c + k = 4 → (∀ x : Nat, 1 ≤ x → x ≤ c → nEnd N A x = nEnd N' C x) → Wp (d + 2) 0 0 M_X4_sameNames 3 [some (.inr (.inr a)), some (.inl (enc A)), some (.inr (.inr b)), some (.inl (enc C)), some (.inl y)] [] h q := by
    intro k
    induction k with
    | zero =>
      intro c y hy hc al
      refine p_iload 5 rfl rfl rfl ?_
      refine p_const 7 rfl rfl ?_
      refine p_ic_ge_t 47 rfl rfl (by omega) ?_
      refine p_const 48 rfl rfl ?_
      refine p_zret rfl rfl (by decide) ?_
      -- leaf 1: answer [.inl 1] h=h 
      exact K1 (fun x x1 x4 => al x x1 (by omega))
    | succ k ih =>
      intro c y hy hc al
      have d1 := dig okA hN B.f0 inA c y hy
      have d2 := dig okC hN' B'.f0 inC c y hy
      refine p_iload 5 rfl rfl rfl ?_
      refine p_const 7 rfl rfl ?_
      refine p_ic_ge_f 10 rfl rfl (by omega) ?_
      refine p_aload 11 rfl rfl rfl ?_
      refine p_iload 12 rfl rfl rfl ?_
      refine p_iload 14 rfl rfl rfl ?_
      refine p_ishr (z := (enc A) / 2 ^ (y).toNat) 15 rfl rfl (by omega) (by omega) rfl ?_
      refine p_const 17 rfl rfl ?_
      refine p_iand (z := ((enc A) / 2 ^ (y).toNat) % 64) 18 rfl rfl (mask32 6 rfl (by decide)) ?_
      refine p_const 19 rfl rfl ?_
      refine p_isub (z := (((enc A) / 2 ^ (y).toNat) % 64) - 1) 20 rfl rfl (w32_id ⟨(by omega), (by omega)⟩) ?_
      refine p_calls (le := [some (.inr (.inr a)), some (.inl ((((enc A) / 2 ^ (y).toNat) % 64) - 1))]) (as := [.inr (.inr a), .inl ((((enc A) / 2 ^ (y).toNat) % 64) - 1)]) (rest := []) 23 0 0 0 0 rfl rfl (Nat.le_of_ble_eq_true rfl) rfl (Nat.le_of_ble_eq_true rfl) rfl rfl (Nat.le_of_ble_eq_true rfl) rfl (Nat.le_of_ble_eq_true rfl) rfl (Nat.le_refl _) (Nat.le_refl _) rfl rfl ?_
      refine NO a ((((enc A) / 2 ^ (y).toNat) % 64) - 1) _ (by omega) ?_
      show Wp (d + 2) 0 0 M_X4_sameNames 23 [some (.inr (.inr a)), some (.inl (enc A)), some (.inr (.inr b)), some (.inl (enc C)), some (.inl y)] [.inl (nmF (fun i => gv h (a + 1) i) (gv h a 0) ((((enc A) / 2 ^ (y).toNat) % 64) - 1))] h _
      refine p_aload 24 rfl rfl rfl ?_
      refine p_iload 25 rfl rfl rfl ?_
      refine p_iload 27 rfl rfl rfl ?_
      refine p_ishr (z := (enc C) / 2 ^ (y).toNat) 28 rfl rfl (by omega) (by omega) rfl ?_
      refine p_const 30 rfl rfl ?_
      refine p_iand (z := ((enc C) / 2 ^ (y).toNat) % 64) 31 rfl rfl (mask32 6 rfl (by decide)) ?_
      refine p_const 32 rfl rfl ?_
      refine p_isub (z := (((enc C) / 2 ^ (y).toNat) % 64) - 1) 33 rfl rfl (w32_id ⟨(by omega), (by omega)⟩) ?_
      refine p_calls (le := [some (.inr (.inr b)), some (.inl ((((enc C) / 2 ^ (y).toNat) % 64) - 1))]) (as := [.inr (.inr b), .inl ((((enc C) / 2 ^ (y).toNat) % 64) - 1)]) (rest := [.inl (nmF (fun i => gv h (a + 1) i) (gv h a 0) ((((enc A) / 2 ^ (y).toNat) % 64) - 1))]) 36 0 0 0 0 rfl rfl (Nat.le_of_ble_eq_true rfl) rfl (Nat.le_of_ble_eq_true rfl) rfl rfl (Nat.le_of_ble_eq_true rfl) rfl (Nat.le_of_ble_eq_true rfl) rfl (Nat.le_refl _) (Nat.le_refl _) rfl rfl ?_
      refine NO b ((((enc C) / 2 ^ (y).toNat) % 64) - 1) _ (by omega) ?_
      show Wp (d + 2) 0 0 M_X4_sameNames 36 [some (.inr (.inr a)), some (.inl (enc A)), some (.inr (.inr b)), some (.inl (enc C)), some (.inl y)] [.inl (nmF (fun i => gv h (b + 1) i) (gv h b 0) ((((enc C) / 2 ^ (y).toNat) % 64) - 1)), .inl (nmF (fun i => gv h (a + 1) i) (gv h a 0) ((((enc A) / 2 ^ (y).toNat) % 64) - 1))] h _
      refine p_ic_eq 39 41 rfl rfl rfl (fun c3 => ?_) (fun c3 => ?_)
      · skip
        refine p_iinc (y := y + 6) (ls' := [some (.inr (.inr a)), some (.inl (enc A)), some (.inr (.inr b)), some (.inl (enc C)), some (.inl (y + 6))]) 44 rfl rfl rfl (w32_id ⟨(by omega), (by omega)⟩) rfl ?_
        refine p_goto 3 rfl rfl ?_
        -- leaf 1: loop 3 [some (.inr (.inr a)), some (.inl (enc A)), some (.inr (.inr b)), some (.inl (enc C)), some (.inl (y + 6))] st=[] h=h 
        refine ih (c + 1) (y + 6) (by omega) (by omega) (fun x x1 x2 => ?_)
        by_cases z : x = c + 1
        · rw [z, ← d1, ← d2]; assumption
        · exact al x x1 (by omega)
      · skip
        refine p_const 40 rfl rfl ?_
        refine p_zret rfl rfl (by decide) ?_
        -- leaf 2: answer [.inl 0] h=h 
        exact K2 (fun z => by have w := z (c + 1) (by omega) (by omega); rw [← d1, ← d2] at w; contradiction)
  refine p_const 1 rfl rfl ?_
  refine p_istore (ls' := [some (.inr (.inr a)), some (.inl (enc A)), some (.inr (.inr b)), some (.inl (enc C)), some (.inl 0)]) 3 rfl rfl (Nat.le_of_ble_eq_true rfl) rfl ?_
  -- leaf 1: loop 3 [some (.inr (.inr a)), some (.inl (enc A)), some (.inr (.inr b)), some (.inl (enc C)), some (.inl 0)] st=[] h=h 
  exact L 4 0 0 rfl rfl (fun x x1 x2 => by omega)

