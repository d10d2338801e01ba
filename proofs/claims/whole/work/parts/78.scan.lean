/-! MESSAGE: the words between, on both sides -/
def Scn (T : Int → Int) (n : Int) (ok : Int → Prop) : List Int → Int → Prop
  | [], p => ∀ i, p ≤ i → i < n → isBl (T i)
  | w :: l, p => ∃ s e, nxt T p s ∧ isLet (T s) ∧ ends isLet T s e ∧ e - s ≤ 6 ∧ w = wv T s (e - s).toNat ∧ ok w ∧ Scn T n ok l e
theorem Scn.end_ {T : Int → Int} {n p : Int} {ok : Int → Prop} (O : TxO T n) (h : n ≤ p) (p0 : 0 ≤ p) : ∀ {l : List Int}, Scn T n ok l p ↔ l = []
  | [] => ⟨fun _ => rfl, fun _ i i0 i1 => by omega⟩
  | w :: l => ⟨fun ⟨s, e, ⟨a1, _⟩, b, _⟩ => by have := O.lt (i := s) (by omega); omega, fun z => by cases z⟩
theorem Scn.blank {T : Int → Int} {n p : Int} {ok : Int → Prop} (b : isBl (T p)) : ∀ {l : List Int}, Scn T n ok l p ↔ Scn T n ok l (p + 1)
  | [] => ⟨fun h i i0 i1 => h i (by omega) i1, fun h i i0 i1 => by by_cases z : i = p; rw [z]; exact b; exact h i (by omega) i1⟩
  | w :: l => by
    have z : ∀ s, nxt T p s ↔ nxt T (p + 1) s := fun s => by
      constructor
      · rintro ⟨a1, a2, a3⟩
        have : p ≠ s := fun e => a3 (by rw [← e]; exact b)
        exact ⟨by omega, fun i i0 i1 => a2 i (by omega) i1, a3⟩
      · rintro ⟨a1, a2, a3⟩
        exact ⟨by omega, fun i i0 i1 => by by_cases z : i = p; rw [z]; exact b; exact a2 i (by omega) i1, a3⟩
    constructor
    · rintro ⟨s, e, a, r⟩; exact ⟨s, e, (z s).1 a, r⟩
    · rintro ⟨s, e, a, r⟩; exact ⟨s, e, (z s).2 a, r⟩
theorem Scn.skip {T : Int → Int} {n p e : Int} {ok : Int → Prop} (b : nxt T p e) : ∀ {l : List Int}, Scn T n ok l p ↔ Scn T n ok l e
  | [] => ⟨fun h i i0 i1 => h i (by have := b.1; omega) i1, fun h i i0 i1 => by by_cases z : i < e; exact b.2.1 i i0 z; exact h i (by omega) i1⟩
  | w :: l => by
    have z : ∀ s, nxt T p s ↔ nxt T e s := fun s => by
      constructor
      · intro a; rw [a.same b]; exact ⟨Int.le_refl e, fun i i0 i1 => by omega, b.2.2⟩
      · intro a
        have : s = e := a.same ⟨Int.le_refl e, fun i i0 i1 => by omega, b.2.2⟩
        rw [this]; exact b
    constructor
    · rintro ⟨s, e, a, r⟩; exact ⟨s, e, (z s).1 a, r⟩
    · rintro ⟨s, e, a, r⟩; exact ⟨s, e, (z s).2 a, r⟩
theorem Scn.word {T : Int → Int} {n p e : Int} {ok : Int → Prop} (pn : p < n) (nb : ¬ isBl (T p)) (he : ends isLet T p e) : ∀ {l : List Int}, Scn T n ok l p ↔ ∃ w l', l = w :: l' ∧ isLet (T p) ∧ e - p ≤ 6 ∧ w = wv T p (e - p).toNat ∧ ok w ∧ Scn T n ok l' e
  | [] => ⟨fun h => absurd (h p (Int.le_refl p) pn) nb, fun ⟨w, l', z, _⟩ => by cases z⟩
  | w :: l => by
    have sp : nxt T p p := ⟨Int.le_refl p, fun i i0 i1 => by omega, nb⟩
    constructor
    · rintro ⟨s, e', a, b, c, d, f, g, r⟩
      have es : s = p := a.same sp
      subst es
      have ee := c.same he
      subst ee
      exact ⟨w, l, rfl, b, d, f, g, r⟩
    · rintro ⟨w', l', z, b, d, f, g, r⟩
      cases z
      exact ⟨p, e, sp, b, he, d, f, g, r⟩
theorem Scn.same {T : Int → Int} {n : Int} {ok : Int → Prop} : ∀ {l l' : List Int} {p : Int}, Scn T n ok l p → Scn T n ok l' p → (∀ s, isLet (T s) → s < n) → l = l'
  | [], [], _, _, _, _ => rfl
  | [], w :: l', p, a, ⟨s, e, x, y, _⟩, hs => by have := a s x.1 (hs s y); omega
  | w :: l, [], p, ⟨s, e, x, y, _⟩, b, hs => by have := b s x.1 (hs s y); omega
  | w :: l, w' :: l', p, ⟨s, e, x, y, z, _, f, _, r⟩, ⟨s', e', x', y', z', _, f', _, r'⟩, hs => by
    have es := x.same x'
    subst es
    have ee := z.same z'
    subst ee
    rw [f, f', Scn.same r r' hs]
def okW (h : PH) (k : Int) (w : Int) : Prop := frs (nm h k) w (gv h 79 k).toNat ≠ -1
/-- the words of a message, or none -/
def MsgR (T : Int → Int) (n : Int) (ok : Int → Prop) (r : Int) (l : List Int) : Prop := (Scn T n ok l 0 ∧ 1 ≤ l.length ∧ l.length ≤ 12 ∧ r = l.length) ∨ (r = -1 ∧ l = [] ∧ ∀ l', Scn T n ok l' 0 → ¬ (1 ≤ l'.length ∧ l'.length ≤ 12))
theorem MsgR.same {T : Int → Int} {n : Int} {ok : Int → Prop} {r r' : Int} {l l' : List Int} (O : TxO T n) (a : MsgR T n ok r l) (b : MsgR T n ok r' l') : r = r' ∧ l = l' := by
  have hs : ∀ s, isLet (T s) → s < n := fun s z => (O.lt (i := s) (by omega)).2
  rcases a with ⟨a1, a2, a3, a4⟩ | ⟨a1, a2, a3⟩ <;> rcases b with ⟨b1, b2, b3, b4⟩ | ⟨b1, b2, b3⟩
  · have := a1.same b1 hs
    subst this
    exact ⟨by omega, rfl⟩
  · exact absurd ⟨a2, a3⟩ (b3 l a1)
  · exact absurd ⟨b2, b3⟩ (a3 l' b1)
  · exact ⟨by omega, by rw [a2, b2]⟩
def scA (a _i : Int) : Bool := decide (a = 63)
theorem x_scanNames {d : Nat} {h : PH} {q : PQ} (S : Shape h) (a : Int) {T : Int → Int} {n k : Int} (O : TxO T n) (X : TxX h T n) (R : BkR h a k)
    (K : ∀ r h', (Keep scA h h' ∧ ∃ l, MsgR T n (okW h k) r l ∧ ∀ (j : Nat) w, l[j]? = some w → gv h' 63 j = w) → Shape h' → q (some (.inl r)) h') :
    Wp (d + 4) 0 0 M_X11_scanNames 0 [some (.inr (.inr 2)), some (.inr (.inr a)), none, none, none, none] [] h q := by
  have n7 := O.1
  obtain ⟨r1, r2, pl, r3, r4, Bk, Is⟩ := R
  have ge := Bk.ge
  have J : ∀ (c : Nat) (p m nx : Int) (D : List Int) (w5 : Option PV) (h1 : PH), p + c = n → 0 ≤ p → nx ≤ n → m = D.length → m ≤ 12 → (∀ l, Scn T n (okW h k) l 0 ↔ ∃ l', l = D ++ l' ∧ Scn T n (okW h k) l' (if p < nx then nx else p)) → Shape h1 → Keep scA h h1 → (∀ (j : Nat) w, D[j]? = some w → gv h1 63 j = w) →
      Wp (d + 4) 0 0 M_X11_scanNames 7 [some (.inr (.inr 2)), some (.inr (.inr a)), some (.inl m), some (.inl nx), some (.inl p), w5] [] h1 q := by
    intro c
    induction c with
    | zero =>
      intro p m nx D w5 h1 hp p0 nn hm m12 iff S1 k1 hD
      have hn : gv h1 3 1 = n := (k1.1 3 1 rfl).trans X.1
      have e0 : Scn T n (okW h k) D 0 := (iff D).2 ⟨[], by rw [List.append_nil], (Scn.end_ O (by split <;> omega) (by split <;> omega)).2 rfl⟩
      refine p_iload 9 rfl rfl rfl ?_
      refine p_aload 10 rfl rfl rfl ?_
      refine p_getfr (j := 0) (z := 3) 13 rfl rfl rfl (tg_2 S1) rfl (fi_2_0 S1) ?_
      refine p_getfi (j := 1) (z := n) 16 rfl rfl rfl (tg_3 S1) rfl hn ?_
      refine p_ic_ge_t 105 rfl rfl (by omega) ?_
      refine p_iload 106 rfl rfl rfl ?_
      refine p_if_ne 109 113 rfl rfl rfl (fun c1 => ?_) (fun c1 => ?_)
      · skip
        refine p_iload 114 rfl rfl rfl ?_
        refine p_iret rfl rfl ?_
        -- leaf 1: answer [.inl m] h=h1 
        exact K m h1 ⟨k1, D, Or.inl ⟨e0, by omega, by omega, by omega⟩, hD⟩ S1
      · skip
        refine p_const 110 rfl rfl ?_
        refine p_goto 114 rfl rfl ?_
        refine p_iret rfl rfl ?_
        -- leaf 2: answer [.inl (-1)] h=h1 
        refine K (-1) h1 ⟨k1, [], Or.inr ⟨rfl, rfl, fun l' hl hb => ?_⟩, fun j w hw => by cases hw⟩ S1
        obtain ⟨l2, e2, s2⟩ := (iff l').1 hl
        have z := (Scn.end_ O (by split <;> omega) (by split <;> omega)).1 s2
        rw [e2, z, List.append_nil] at hb
        omega
    | succ c ih =>
      intro p m nx D w5 h1 hp p0 nn hm m12 iff S1 k1 hD
      have X1 : TxX h1 T n := X.kp (k1.1 3 1 rfl) (fun i => k1.1 4 i rfl)
      have hn : gv h1 3 1 = n := X1.1
      have Bk1 := Bk.kp k1 (fun x i z => decide_eq_false (by omega))
      refine p_iload 9 rfl rfl rfl ?_
      refine p_aload 10 rfl rfl rfl ?_
      refine p_getfr (j := 0) (z := 3) 13 rfl rfl rfl (tg_2 S1) rfl (fi_2_0 S1) ?_
      refine p_getfi (j := 1) (z := n) 16 rfl rfl rfl (tg_3 S1) rfl hn ?_
      refine p_ic_ge_f 19 rfl rfl (by omega) ?_
      refine p_iload 21 rfl rfl rfl ?_
      refine p_iload 22 rfl rfl rfl ?_
      refine p_ic_lt 25 99 rfl rfl rfl (fun c1 => ?_) (fun c1 => ?_)
      · skip
        refine p_iinc (y := p + 1) (ls' := [some (.inr (.inr 2)), some (.inr (.inr a)), some (.inl m), some (.inl nx), some (.inl (p + 1)), w5]) 102 rfl rfl rfl (w32_id ⟨(by omega), (by omega)⟩) rfl ?_
        refine p_goto 7 rfl rfl ?_
        -- leaf 1: loop 7 [some (.inr (.inr 2)), some (.inr (.inr a)), some (.inl m), some (.inl nx), some (.inl (p + 1)), w5] st=[] h=h1 
        refine ih (p + 1) m nx D w5 h1 (by omega) (by omega) nn hm m12 ?_ S1 k1 hD
        rw [show (if p + 1 < nx then nx else p + 1) = (if p < nx then nx else p) by rw [if_pos c1]; split <;> omega]
        exact iff
      · skip
        refine p_aload 26 rfl rfl rfl ?_
        refine p_getfr (j := 0) (z := 3) 29 rfl rfl rfl (tg_2 S1) rfl (fi_2_0 S1) ?_
        refine p_iload 31 rfl rfl rfl ?_
        refine p_callv (le := [some (.inr (.inr 3)), some (.inl p)]) (as := [.inr (.inr 3), .inl p]) (rest := []) 34 0 0 0 0 rfl rfl (Nat.le_of_ble_eq_true rfl) rfl (Nat.le_of_ble_eq_true rfl) rfl rfl (Nat.le_of_ble_eq_true rfl) rfl (Nat.le_of_ble_eq_true rfl) rfl (Nat.le_refl _) (Nat.le_refl _) rfl rfl (tg_3 S1) ?_
        refine x_at S1 p O X1 ?_
        show Wp (d + 4) 0 0 M_X11_scanNames 34 [some (.inr (.inr 2)), some (.inr (.inr a)), some (.inl m), some (.inl nx), some (.inl p), w5] [.inl (T p)] h1 _
        refine p_calls (le := [some (.inl (T p))]) (as := [.inl (T p)]) (rest := []) 37 0 0 0 0 rfl rfl (Nat.le_of_ble_eq_true rfl) rfl (Nat.le_of_ble_eq_true rfl) rfl rfl (Nat.le_of_ble_eq_true rfl) rfl (Nat.le_of_ble_eq_true rfl) rfl (Nat.le_refl _) (Nat.le_refl _) rfl rfl ?_
        refine p_iload 1 rfl rfl rfl ?_
        refine p_const 3 rfl rfl ?_
        refine p_ic_eq 6 12 rfl rfl rfl (fun c3 => ?_) (fun c3 => ?_)
        · skip
          refine p_const 13 rfl rfl ?_
          refine p_goto 17 rfl rfl ?_
          refine p_zret rfl rfl (by decide) ?_
          show Wp (d + 4) 0 0 M_X11_scanNames 37 [some (.inr (.inr 2)), some (.inr (.inr a)), some (.inl m), some (.inl nx), some (.inl p), w5] [.inl 1] h1 _
          refine p_if_eq_f 40 rfl rfl (by decide) ?_
          refine p_goto 99 rfl rfl ?_
          refine p_iinc (y := p + 1) (ls' := [some (.inr (.inr 2)), some (.inr (.inr a)), some (.inl m), some (.inl nx), some (.inl (p + 1)), w5]) 102 rfl rfl rfl (w32_id ⟨(by omega), (by omega)⟩) rfl ?_
          refine p_goto 7 rfl rfl ?_
          -- leaf 2: loop 7 [some (.inr (.inr 2)), some (.inr (.inr a)), some (.inl m), some (.inl nx), some (.inl (p + 1)), w5] st=[] h=h1 
          refine ih (p + 1) m nx D w5 h1 (by omega) (by omega) nn hm m12 (fun l => ?_) S1 k1 hD
          rw [if_neg (by omega)]
          rw [iff l, if_neg (by omega)]
          constructor
          · rintro ⟨l', e, z⟩; exact ⟨l', e, (Scn.blank (by omega)).1 z⟩
          · rintro ⟨l', e, z⟩; exact ⟨l', e, (Scn.blank (by omega)).2 z⟩
        · skip
          refine p_iload 7 rfl rfl rfl ?_
          refine p_const 9 rfl rfl ?_
          refine p_ic_ne 12 16 rfl rfl rfl (fun c4 => ?_) (fun c4 => ?_)
          · skip
            refine p_const 17 rfl rfl ?_
            refine p_zret rfl rfl (by decide) ?_
            show Wp (d + 4) 0 0 M_X11_scanNames 37 [some (.inr (.inr 2)), some (.inr (.inr a)), some (.inl m), some (.inl nx), some (.inl p), w5] [.inl 0] h1 _
            refine p_if_eq_t 43 rfl rfl (by decide) ?_
            have pos : (if p < nx then nx else p) = p := if_neg (by omega)
            rw [pos] at iff
            refine p_aload 44 rfl rfl rfl ?_
            refine p_getfr (j := 0) (z := 3) 47 rfl rfl rfl (tg_2 S1) rfl (fi_2_0 S1) ?_
            refine p_iload 49 rfl rfl rfl ?_
            refine p_callv (le := [some (.inr (.inr 3)), some (.inl p), none, none]) (as := [.inr (.inr 3), .inl p]) (rest := []) 52 0 0 0 0 rfl rfl (Nat.le_of_ble_eq_true rfl) rfl (Nat.le_of_ble_eq_true rfl) rfl rfl (Nat.le_of_ble_eq_true rfl) rfl (Nat.le_of_ble_eq_true rfl) rfl (Nat.le_refl _) (Nat.le_refl _) rfl rfl (tg_3 S1) ?_
            refine x_wordEnd S1 p O X1 p0 (by omega) (fun r5 p5 => ?_)
            show Wp (d + 4) 0 0 M_X11_scanNames 52 [some (.inr (.inr 2)), some (.inr (.inr a)), some (.inl m), some (.inl nx), some (.inl p), w5] [.inl r5] h1 _
            refine p_istore (ls' := [some (.inr (.inr 2)), some (.inr (.inr a)), some (.inl m), some (.inl r5), some (.inl p), w5]) 53 rfl rfl (Nat.le_of_ble_eq_true rfl) rfl ?_
            refine p_aload 54 rfl rfl rfl ?_
            refine p_getfr (j := 0) (z := 3) 57 rfl rfl rfl (tg_2 S1) rfl (fi_2_0 S1) ?_
            refine p_iload 59 rfl rfl rfl ?_
            refine p_iload 60 rfl rfl rfl ?_
            refine p_callv (le := [some (.inr (.inr 3)), some (.inl p), some (.inl r5), none, none]) (as := [.inr (.inr 3), .inl p, .inl r5]) (rest := []) 63 0 0 0 0 rfl rfl (Nat.le_of_ble_eq_true rfl) rfl (Nat.le_of_ble_eq_true rfl) rfl rfl (Nat.le_of_ble_eq_true rfl) rfl (Nat.le_of_ble_eq_true rfl) rfl (Nat.le_refl _) (Nat.le_refl _) rfl rfl (tg_3 S1) ?_
            refine x_word S1 p r5 O X1 p0 p5.1.1 p5.2 p5.1.2.1 ?_
            show Wp (d + 4) 0 0 M_X11_scanNames 63 [some (.inr (.inr 2)), some (.inr (.inr a)), some (.inl m), some (.inl r5), some (.inl p), w5] [.inl (if r5 - p ≤ 6 then wv T p (r5 - p).toNat else 0)] h1 _
            have p5' := p5.1
            have sw := fun l => Scn.word (ok := okW h k) (l := l) (show p < n by omega) (show ¬ isBl (T p) by omega) p5.1
            have wp := wv_in (T := T) (p := p) (k := (r5 - p).toNat) (fun i i0 i1 => p5'.2.1 i i0 (by omega))
            have ep : isLet (T p) → p < r5 := fun z => by
              apply Decidable.byContradiction
              intro y
              have : r5 = p := by have := p5'.1; omega
              rw [this] at p5'; exact p5'.2.2 z
            refine p_nmi (fun v7 w7 => ?_)
            refine p_istore (ls' := [some (.inr (.inr 2)), some (.inr (.inr a)), some (.inl m), some (.inl r5), some (.inl p), some (.inl v7)]) 65 rfl rfl (Nat.le_of_ble_eq_true rfl) rfl ?_
            refine p_iload 67 rfl rfl rfl ?_
            refine p_if_eq 70 86 rfl rfl rfl (fun c8 => ?_) (fun c8 => ?_)
            · skip
              refine p_const 87 rfl rfl ?_
              refine p_iret rfl rfl ?_
              -- leaf 3: answer [.inl (-1)] h=h1 
              refine K (-1) h1 ⟨k1, [], Or.inr ⟨rfl, rfl, fun l' hl hb => ?_⟩, fun j w hw => by cases hw⟩ S1
              obtain ⟨l2, e2, s2⟩ := (iff l').1 hl
              obtain ⟨w, l3, _, y1, y2, y3, _, _⟩ := (sw l2).1 s2
              rw [if_pos y2] at w7
              have := ep y1
              have := wp.2.2 (by omega)
              omega
            · skip
              have h6 : r5 - p ≤ 6 := by
                apply Decidable.byContradiction
                intro y; rw [if_neg y] at w7; omega
              rw [if_pos h6] at w7
              have hl : isLet (T p) := by
                apply Decidable.byContradiction
                intro y
                have : r5 = p := p5'.same ⟨Int.le_refl p, fun i i0 i1 => by omega, y⟩
                rw [this, Int.sub_self] at w7; exact c8 w7
              refine p_aload 71 rfl rfl rfl ?_
              refine p_iload 73 rfl rfl rfl ?_
              refine p_callv (le := [some (.inr (.inr a)), some (.inl v7), none]) (as := [.inr (.inr a), .inl v7]) (rest := []) 76 0 0 0 0 rfl rfl (Nat.le_of_ble_eq_true rfl) rfl (Nat.le_of_ble_eq_true rfl) rfl rfl (Nat.le_of_ble_eq_true rfl) rfl (Nat.le_of_ble_eq_true rfl) rfl (Nat.le_refl _) (Nat.le_refl _) rfl rfl Bk1.tag ?_
              refine x_idOf S1 a v7 Bk1 r1 r2 (fun i i0 i1 => (k1.1 (a + 1) i (decide_eq_false (by omega))).trans (Is i i0 i1).1.1) ?_
              show Wp (d + 4) 0 0 M_X11_scanNames 76 [some (.inr (.inr 2)), some (.inr (.inr a)), some (.inl m), some (.inl r5), some (.inl p), some (.inl v7)] [.inl (frs (nm h k) (v7) (gv h 79 k).toNat)] h1 _
              refine p_const 77 rfl rfl ?_
              refine p_ic_eq 80 86 rfl rfl rfl (fun c10 => ?_) (fun c10 => ?_)
              · skip
                refine p_const 87 rfl rfl ?_
                refine p_iret rfl rfl ?_
                -- leaf 4: answer [.inl (-1)] h=h1 
                refine K (-1) h1 ⟨k1, [], Or.inr ⟨rfl, rfl, fun l' hl hb => ?_⟩, fun j w hw => by cases hw⟩ S1
                obtain ⟨l2, e2, s2⟩ := (iff l').1 hl
                obtain ⟨w, l3, _, y1, y2, y3, y4, _⟩ := (sw l2).1 s2
                rw [← w7] at y3
                rw [y3] at y4
                exact y4 c10
              · skip
                refine p_iload 81 rfl rfl rfl ?_
                refine p_const 83 rfl rfl ?_
                refine p_ic_lt 86 88 rfl rfl rfl (fun c11 => ?_) (fun c11 => ?_)
                · skip
                  refine p_aload 89 rfl rfl rfl ?_
                  refine p_getfr (j := 8) (z := 63) 92 rfl rfl rfl (tg_2 S1) rfl (fi_2_8 S1) ?_
                  refine p_iload 93 rfl rfl rfl ?_
                  refine p_iload 95 rfl rfl rfl ?_
                  refine p_iast (w := 12) 96 rfl rfl (by decide) (tg_63 S1) (ln_63 S1) (by omega) (by omega) ?_
                  refine p_nmh (fun y12 e12 => ?_)
                  have S12 : Shape y12 := by rw [e12]; exact S1.svA fa_63 _ _
                  refine p_iinc (y := m + 1) (ls' := [some (.inr (.inr 2)), some (.inr (.inr a)), some (.inl (m + 1)), some (.inl r5), some (.inl p), some (.inl v7)]) 99 rfl rfl rfl (w32_id ⟨(by omega), (by omega)⟩) rfl ?_
                  refine p_iinc (y := p + 1) (ls' := [some (.inr (.inr 2)), some (.inr (.inr a)), some (.inl (m + 1)), some (.inl r5), some (.inl (p + 1)), some (.inl v7)]) 102 rfl rfl rfl (w32_id ⟨(by omega), (by omega)⟩) rfl ?_
                  refine p_goto 7 rfl rfl ?_
                  -- leaf 5: loop 7 [some (.inr (.inr 2)), some (.inr (.inr a)), some (.inl (m + 1)), some (.inl r5), some (.inl (p + 1)), some (.inl v7)] st=[] h=y12 e12
                  refine ih (p + 1) (m + 1) r5 (D ++ [v7]) _ _ (by omega) (by omega) p5.2 (by rw [List.length_append]; show m + 1 = ((D.length + 1 : Nat) : Int); omega) (by omega) (fun l => ?_) S12 (by rw [e12]; exact k1.sv rfl _) (fun j w hw => ?_)
                  · have := ep hl
                    rw [show (if p + 1 < r5 then r5 else p + 1) = r5 by split <;> omega, iff l]
                    constructor
                    · rintro ⟨l', e, z⟩
                      obtain ⟨w, l3, y0, y1, y2, y3, y4, y5⟩ := (sw l').1 z
                      exact ⟨l3, by rw [e, y0, y3, w7, List.append_assoc]; rfl, y5⟩
                    · rintro ⟨l', e, z⟩
                      exact ⟨v7 :: l', by rw [e, List.append_assoc]; rfl, (sw _).2 ⟨v7, l', rfl, hl, h6, w7, c10, z⟩⟩
                  · rw [e12]
                    rcases snoc_get hw with ⟨j1, j2⟩ | ⟨j1, j2⟩
                    · rw [sv_nf (by omega)]; exact hD j w j2
                    · rw [j2, j1, ← hm, sv_eq]
                · skip
                  refine p_const 87 rfl rfl ?_
                  refine p_iret rfl rfl ?_
                  -- leaf 6: answer [.inl (-1)] h=h1 
                  refine K (-1) h1 ⟨k1, [], Or.inr ⟨rfl, rfl, fun l' hl hb => ?_⟩, fun j w hw => by cases hw⟩ S1
                  obtain ⟨l2, e2, s2⟩ := (iff l').1 hl
                  obtain ⟨w, l3, y0, _⟩ := (sw l2).1 s2
                  rw [e2, y0, List.length_append, List.length_cons] at hb
                  omega
          · skip
            refine p_const 13 rfl rfl ?_
            refine p_goto 17 rfl rfl ?_
            refine p_zret rfl rfl (by decide) ?_
            show Wp (d + 4) 0 0 M_X11_scanNames 37 [some (.inr (.inr 2)), some (.inr (.inr a)), some (.inl m), some (.inl nx), some (.inl p), w5] [.inl 1] h1 _
            refine p_if_eq_f 40 rfl rfl (by decide) ?_
            refine p_goto 99 rfl rfl ?_
            refine p_iinc (y := p + 1) (ls' := [some (.inr (.inr 2)), some (.inr (.inr a)), some (.inl m), some (.inl nx), some (.inl (p + 1)), w5]) 102 rfl rfl rfl (w32_id ⟨(by omega), (by omega)⟩) rfl ?_
            refine p_goto 7 rfl rfl ?_
            -- leaf 7: loop 7 [some (.inr (.inr 2)), some (.inr (.inr a)), some (.inl m), some (.inl nx), some (.inl (p + 1)), w5] st=[] h=h1 
            refine ih (p + 1) m nx D w5 h1 (by omega) (by omega) nn hm m12 (fun l => ?_) S1 k1 hD
            rw [if_neg (by omega)]
            rw [iff l, if_neg (by omega)]
            constructor
            · rintro ⟨l', e, z⟩; exact ⟨l', e, (Scn.blank (by omega)).1 z⟩
            · rintro ⟨l', e, z⟩; exact ⟨l', e, (Scn.blank (by omega)).2 z⟩
  refine p_const 1 rfl rfl ?_
  refine p_istore (ls' := [some (.inr (.inr 2)), some (.inr (.inr a)), some (.inl 0), none, none, none]) 2 rfl rfl (Nat.le_of_ble_eq_true rfl) rfl ?_
  refine p_const 3 rfl rfl ?_
  refine p_istore (ls' := [some (.inr (.inr 2)), some (.inr (.inr a)), some (.inl 0), some (.inl 0), none, none]) 4 rfl rfl (Nat.le_of_ble_eq_true rfl) rfl ?_
  refine p_const 5 rfl rfl ?_
  refine p_istore (ls' := [some (.inr (.inr 2)), some (.inr (.inr a)), some (.inl 0), some (.inl 0), some (.inl 0), none]) 7 rfl rfl (Nat.le_of_ble_eq_true rfl) rfl ?_
  -- leaf 1: loop 7 [some (.inr (.inr 2)), some (.inr (.inr a)), some (.inl 0), some (.inl 0), some (.inl 0), none] st=[] h=h 
  exact J n.toNat 0 0 0 [] _ h (by omega) (by omega) (by omega) rfl (by decide) (fun l => ⟨fun z => ⟨l, rfl, z⟩, fun ⟨l', e, z⟩ => by rw [e]; exact z⟩) S (Keep.rf _ _) (fun j w hw => by cases hw)

