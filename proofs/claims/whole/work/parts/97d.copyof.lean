/-! NEW THINGS: what stays, copies -/
/-- all that was there is as it was -/
def Grw (h h' : PH) : Prop := nx h ≤ nx h' ∧ ∀ b, b < nx h → tg h' b = tg h b ∧ ln h' b = ln h b ∧ ∀ i, gv h' b i = gv h b i
theorem Grw.rf (h : PH) : Grw h h := ⟨Int.le_refl _, fun _ _ => ⟨rfl, rfl, fun _ => rfl⟩⟩
theorem Grw.trans {a b c : PH} (p : Grw a b) (q : Grw b c) : Grw a c := ⟨Int.le_trans p.1 q.1, fun x hx => by
  have l := p.1
  obtain ⟨p1, p2, p3⟩ := p.2 x hx
  obtain ⟨q1, q2, q3⟩ := q.2 x (by omega)
  exact ⟨q1.trans p1, q2.trans p2, fun i => (q3 i).trans (p3 i)⟩⟩
theorem Shape.grw {h h' : PH} (S : Shape h) (g : Grw h h') : Shape h' := by
  have n := S.1
  have l := g.1
  refine ⟨by omega, fun a a0 a1 => ?_, fun e he => ?_, fun s s0 s1 => ?_⟩
  · obtain ⟨x, y, _⟩ := g.2 a (by omega)
    rw [x, y]; exact S.2.1 a a0 a1
  · have z := FIN_lt e he
    rw [(g.2 e.1 (by omega)).2.2]; exact S.2.2.1 e he
  · rw [(g.2 39 (by omega)).2.2]; exact S.2.2.2 s s0 s1
theorem al_new (h : PH) (t n : Int) : tg (al h t n) (nx h) = t ∧ ln (al h t n) (nx h) = n ∧ ∀ i, gv (al h t n) (nx h) i = 0 := by
  refine ⟨?_, ?_, fun i => ?_⟩
  · show (if nx h = nx h then t else _) = t; rw [if_pos rfl]
  · show (if nx h = nx h then n else _) = n; rw [if_pos rfl]
  · show (if nx h = nx h then (0 : Int) else _) = 0; rw [if_pos rfl]
theorem al_grw (h : PH) (t n : Int) : Grw h (al h t n) := by
  refine ⟨by show nx h ≤ nx h + 1; omega, fun b hb => ⟨?_, ?_, fun i => ?_⟩⟩
  · show (if b = nx h then t else tg h b) = tg h b; rw [if_neg (by omega)]
  · show (if b = nx h then n else ln h b) = ln h b; rw [if_neg (by omega)]
  · show (if b = nx h then (0 : Int) else gv h b i) = gv h b i; rw [if_neg (by omega)]
theorem sv_grw {h h1 : PH} {a i v : Int} (g : Grw h h1) (ha : nx h ≤ a) : Grw h (sv h1 a i v) := ⟨g.1, fun b hb => by
  obtain ⟨x, y, z⟩ := g.2 b hb
  exact ⟨x, y, fun j => by rw [sv_ne (by omega)]; exact z j⟩⟩
/-- a copy of the first m of a, made new -/
def CpR (h h' : PH) (a m : Int) : Prop := Grw h h' ∧ nx h' = nx h + 1 ∧ tg h' (nx h) = 100 ∧ ln h' (nx h) = m ∧ ∀ i, 0 ≤ i → i < m → gv h' (nx h) i = gv h a i
theorem x_copyOf {d : Nat} {h : PH} {q : PQ} (S : Shape h) (a m : Int) {w : Int} (a2 : 2 ≤ a) (an : a < nx h) (ta : tg h a = 100) (la : ln h a = w) (m0 : 0 ≤ m) (mw : m ≤ w) (w7 : w ≤ 700) (K : ∀ h', CpR h h' a m → q (some (.inr (.inr (nx h)))) h') :
    Wp (d + 1) 1 700 M_J7_copyOf_59c91 0 [some (.inr (.inr a)), some (.inl m), none] [] h q := by
  have n8 := S.1
  refine p_iload 1 rfl rfl rfl ?_
  refine p_aload 2 rfl rfl rfl ?_
  refine p_alen (w := w) 3 rfl rfl (by rw [ta]; decide) la ?_
  refine p_ic_ne 6 14 rfl rfl rfl (fun c => ?_) (fun c => ?_)
  · obtain ⟨t1, l1, _⟩ := al_new h 100 m
    have g1 := al_grw h 100 m
    obtain ⟨ga1, ga2, ga3⟩ := g1.2 a an
    refine p_iload 15 rfl rfl rfl ?_
    refine p_newa (t := .int) (tt := 100) 17 0 (700 - m.toNat) rfl rfl rfl (by decide) m0 (Nat.le_refl _) (by omega) rfl rfl ?_
    refine p_astore (ls' := [some (.inr (.inr a)), some (.inl m), some (.inr (.inr (nx h)))]) 18 rfl rfl (Nat.le_of_ble_eq_true rfl) rfl ?_
    refine p_aload 19 rfl rfl rfl ?_
    refine p_const 20 rfl rfl ?_
    refine p_aload 21 rfl rfl rfl ?_
    refine p_const 22 rfl rfl ?_
    refine p_aload 23 rfl rfl rfl ?_
    refine p_alen (w := w) 24 rfl rfl (by rw [ga1, ta]; decide) (ga2.trans la) ?_
    refine p_iload 25 rfl rfl rfl ?_
    refine p_mini (z := m) 28 rfl rfl (Nat.succ_pos _) (Nat.le_of_ble_eq_true rfl) (by omega) ?_
    refine p_copy (wa := w) (wb := m) 31 rfl rfl a2 (by omega) (ga1.trans ta) t1 (ga2.trans la) l1 (by decide) (by decide) m0 (by omega) (by omega) (Nat.succ_pos _) (Nat.le_of_ble_eq_true rfl) ?_
    refine p_aload 32 rfl rfl rfl ?_
    refine p_aret rfl rfl ?_
    refine K _ ⟨⟨g1.1, fun b hb => ?_⟩, rfl, t1, l1, fun i i0 i1 => ?_⟩
    · obtain ⟨x, y, z⟩ := g1.2 b hb
      refine ⟨x, y, fun i => ?_⟩
      show (if b = nx h ∧ 0 ≤ i ∧ i < 0 + m then _ else gv (al h 100 m) b i) = gv h b i
      rw [if_neg (by omega)]; exact z i
    · show (if nx h = nx h ∧ 0 ≤ i ∧ i < 0 + m then gv (al h 100 m) a (0 + (i - 0)) else _) = gv h a i
      rw [if_pos ⟨rfl, i0, by omega⟩, ga3, show 0 + (i - 0) = i by omega]
  · have cw : m = w := by omega
    refine p_aload 7 rfl rfl rfl ?_
    refine p_clone 10 0 (700 - (ln h a).toNat) rfl rfl a2 ta (Nat.succ_pos _) (Nat.le_of_ble_eq_true rfl) (Nat.le_refl _) (by rw [la]; omega) rfl rfl ?_
    have tn : tg (alc h a) (nx h) = 100 := by show (if nx h = nx h then (100 : Int) else _) = 100; rw [if_pos rfl]
    refine p_ccast 13 rfl rfl (by omega) tn ?_
    refine p_aret rfl rfl ?_
    refine K _ ⟨⟨by show nx h ≤ nx h + 1; omega, fun b hb => ⟨?_, ?_, fun i => ?_⟩⟩, rfl, tn, ?_, fun i i0 i1 => ?_⟩
    · show (if b = nx h then (100 : Int) else tg h b) = tg h b; rw [if_neg (by omega)]
    · show (if b = nx h then ln h a else ln h b) = ln h b; rw [if_neg (by omega)]
    · show (if b = nx h then gv h a i else gv h b i) = gv h b i; rw [if_neg (by omega)]
    · show (if nx h = nx h then ln h a else _) = m; rw [if_pos rfl, la, cw]
    · show (if nx h = nx h then gv h a i else _) = gv h a i; rw [if_pos rfl]
/-- field f of the thing a holds the array c, l long, with these values -/
def Slt (h : PH) (a f c l : Int) (src : Int → Int) : Prop := gv h a f = c ∧ tg h c = 100 ∧ ln h c = l ∧ ∀ i, 0 ≤ i → i < l → gv h c i = src i
theorem Slt.next {h h2 : PH} {a f c l f' v : Int} {src : Int → Int} (X : Slt h a f c l src) (g : Grw h h2) (ca : c ≠ a) (cn : c < nx h) (an : a < nx h) (ff : f ≠ f') : Slt (sv h2 a f' v) a f c l src := by
  obtain ⟨x1, x2, x3, x4⟩ := X
  obtain ⟨t, l, v⟩ := g.2 c cn
  exact ⟨by rw [sv_nf ff, (g.2 a an).2.2]; exact x1, t.trans x2, l.trans x3, fun i i0 i1 => by rw [sv_ne ca, v]; exact x4 i i0 i1⟩

