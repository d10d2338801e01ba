/-! THE LINE, as a function -/
/-- for each ship: hoists to pass on, how many it ever had, aloft (0: none), from when, names read, when, hoists read, lost; and what the last ship read -/
abbrev LnS : Type := (Int → List Int) × (Int → Int) × (Int → Int) × (Int → Int) × (Int → Int) × (Int → Int) × (Int → Int) × (Int → Int) × List Int
abbrev Lq (u : LnS) : Int → List Int := u.1
abbrev Ltl (u : LnS) : Int → Int := u.2.1
abbrev Lal (u : LnS) : Int → Int := u.2.2.1
abbrev Lfr (u : LnS) : Int → Int := u.2.2.2.1
abbrev Lgt (u : LnS) : Int → Int := u.2.2.2.2.1
abbrev Lga (u : LnS) : Int → Int := u.2.2.2.2.2.1
abbrev Lgo (u : LnS) : Int → Int := u.2.2.2.2.2.2.1
abbrev Llo (u : LnS) : Int → Int := u.2.2.2.2.2.2.2.1
abbrev Lhd (u : LnS) : List Int := u.2.2.2.2.2.2.2.2
def up {X : Type} (f : Int → X) (s : Int) (v : X) : Int → X := fun i => if i = s then v else f i
theorem up_eq {X : Type} (f : Int → X) (s : Int) (v : X) : up f s v s = v := if_pos rfl
theorem up_ne {X : Type} {f : Int → X} {s i : Int} {v : X} (h : i ≠ s) : up f s v i = f i := if_neg h
def bendL (s t w : Int) (r : List Int) (u : LnS) : LnS := (up (Lq u) s r, Ltl u, up (Lal u) s w, up (Lfr u) s (t + rl w), Lgt u, Lga u, Lgo u, Llo u, Lhd u)
def readL (s : Int) (u : LnS) : LnS := (Lq u, Ltl u, up (Lal u) s 0, Lfr u, Lgt u, Lga u, up (Lgo u) s (Lgo u s + 1), Llo u, Lhd u)
def loseL (s : Int) (u : LnS) : LnS := (up (Lq u) s [], Ltl u, up (Lal u) s 0, Lfr u, Lgt u, Lga u, Lgo u, up (Llo u) s 1, Lhd u)
/-- ship s reads l at minute t -/
def hearL (last s t : Int) (l : List Int) (u : LnS) : LnS := (Lq u, Ltl u, Lal u, Lfr u, up (Lgt u) s (Lgt u s + l.length), up (Lga u) s t, Lgo u, Llo u, if s = last then Lhd u ++ l else Lhd u)
noncomputable def lB (h : PH) (k s t : Int) (l : List Int) : Int → Q4t := bstF h k s t (zh h t) (fun i => l.getD i.toNat 0) l.length l.length
noncomputable def lH (h : PH) (k s t : Int) (l : List Int) : List Int := pth (lB h k s t l) l.length l.length 0
/-- ship s has l to pass on -/
noncomputable def passL (h : PH) (k last s t : Int) (l : List Int) (u : LnS) : LnS :=
  if s < last ∧ Llo u s = 0 then
    if (lB h k s t l 0).1 < 1000 then (up (Lq u) s (Lq u s ++ lH h k s t l), up (Ltl u) s (Ltl u s + (lB h k s t l 0).1), Lal u, Lfr u, Lgt u, Lga u, Lgo u, Llo u, Lhd u)
    else (Lq u, Ltl u, Lal u, Lfr u, Lgt u, Lga u, Lgo u, up (Llo u) s 1, Lhd u)
  else u
def dmF (h : PH) (s t : Int) : Int := gv h 8 s + zh h t
def SQs (h : PH) (k s t w : Int) : List Int → Prop := SeenQ h (Ws h k s t (zh h t)) (dmF h s t) w
noncomputable def lstp (h : PH) (k last s t : Int) (u : LnS) : LnS :=
  if Lal u s = 0 then
    match Lq u s with
    | [] => u
    | w :: r => bendL s t w r u
  else if t < Lfr u s then u
  else @dite _ (∃ l, only (SQs h k s t (Lal u s)) l) (Classical.propDecidable _) (fun e => passL h k last (s + 1) t (Classical.choose e) (hearL last (s + 1) t (Classical.choose e) (readL s u))) (fun _ => if t - Lfr u s = 19 then loseL s u else u)
section LST
variable {h : PH} {k last s t : Int} {u : LnS}
theorem lstp_none (a : Lal u s = 0) (b : Lq u s = []) : lstp h k last s t u = u := by
  unfold lstp; rw [if_pos a, b]
theorem lstp_bend {w : Int} {r : List Int} (a : Lal u s = 0) (b : Lq u s = w :: r) : lstp h k last s t u = bendL s t w r u := by
  unfold lstp; rw [if_pos a, b]
theorem lstp_wait (a : Lal u s ≠ 0) (b : t < Lfr u s) : lstp h k last s t u = u := by
  unfold lstp; rw [if_neg a, if_pos b]
theorem lstp_read {l : List Int} (a : Lal u s ≠ 0) (b : ¬ t < Lfr u s) (o : only (SQs h k s t (Lal u s)) l) : lstp h k last s t u = passL h k last (s + 1) t l (hearL last (s + 1) t l (readL s u)) := by
  have e : ∃ l, only (SQs h k s t (Lal u s)) l := ⟨l, o⟩
  unfold lstp; rw [if_neg a, if_neg b, dif_pos e, only_same (Classical.choose_spec e) o]
theorem lstp_lose (a : Lal u s ≠ 0) (b : ¬ t < Lfr u s) (o : ¬ ∃ l, only (SQs h k s t (Lal u s)) l) (c : t - Lfr u s = 19) : lstp h k last s t u = loseL s u := by
  unfold lstp; rw [if_neg a, if_neg b, dif_neg o, if_pos c]
theorem lstp_stay (a : Lal u s ≠ 0) (b : ¬ t < Lfr u s) (o : ¬ ∃ l, only (SQs h k s t (Lal u s)) l) (c : t - Lfr u s ≠ 19) : lstp h k last s t u = u := by
  unfold lstp; rw [if_neg a, if_neg b, dif_neg o, if_neg c]
end LST
/-- all ships from s on, c of them -/
noncomputable def lshp (h : PH) (k last t : Int) : Nat → Int → LnS → LnS
  | 0, _, u => u
  | c + 1, s, u => lshp h k last t c (s + 1) (lstp h k last s t u)
def busy (last : Int) (u : LnS) : Prop := ∃ s, (0 ≤ s ∧ s < last) ∧ (Lal u s ≠ 0 ∨ Lq u s ≠ [])
noncomputable def lrun (h : PH) (k last : Int) : Nat → Int → LnS → LnS
  | 0, _, u => u
  | c + 1, t, u => @ite _ (busy last u) (Classical.propDecidable _) (lrun h k last c (t + 1) (lshp h k last t last.toNat 0 u)) u
def l0 (q : List Int) : LnS := (fun s => if s = 0 then q else [], fun s => if s = 0 then (q.length : Int) else 0, fun _ => 0, fun _ => 0, fun _ => 0, fun _ => -1, fun _ => 0, fun _ => 0, [])
/-! bounds -/
def LA (st x a f g : Int) : Prop := (a = 0 ∧ 5 * g ≤ 4 * (x - st)) ∨ (isHo a ∧ st ≤ f - rl a ∧ f - rl a < x ∧ x ≤ f + 19 ∧ 5 * g ≤ 4 * (f - rl a - st))
abbrev tau (s t x : Int) : Int := if x < s then t + 1 else t
def LI (last st s t : Int) (u : LnS) : Prop := (∀ x, 0 ≤ x → x < last → LA st (tau s t x) (Lal u x) (Lfr u x) (Lgt u (x + 1)) ∧ ∀ w ∈ Lq u x, isHo w) ∧
  (∀ x, 0 ≤ x → x ≤ last → 0 ≤ Lgt u x ∧ Ltl u x ≤ (if x = 0 then 12 else Lgt u x) ∧ ((Lq u x).length : Int) ≤ Ltl u x ∧ (Llo u x = 0 ∨ Llo u x = 1) ∧ 0 ≤ Lgo u x ∧ Lgo u x ≤ tau s t x - st) ∧ Lgt u 0 = 0 ∧ ((Lhd u).length : Int) = Lgt u last
theorem LA.g240 {st x a f g : Int} (L : LA st x a f g) (h : x ≤ st + 300) : g ≤ 240 := by
  rcases L with ⟨_, b⟩ | ⟨_, b, c, _, e⟩ <;> omega
theorem LI.gt240 {last st s t : Int} {u : LnS} (L : LI last st s t u) (s1 : s ≤ last) (ht : t < st + 300) (x : Int) (x0 : 0 ≤ x) (x1 : x ≤ last) : 0 ≤ Lgt u x ∧ Lgt u x ≤ 240 := by
  obtain ⟨a, b, c, _⟩ := L
  refine ⟨(b x x0 x1).1, ?_⟩
  by_cases z : x = 0
  · rw [z, c]; decide
  · have y := (a (x - 1) (by omega) (by omega)).1
    rw [show x - 1 + 1 = x by omega] at y
    refine y.g240 ?_
    unfold tau; split <;> omega
theorem LI.next {last st t : Int} {u : LnS} (L : LI last st last t u) : LI last st 0 (t + 1) u := by
  obtain ⟨a, b, c, e⟩ := L
  refine ⟨fun x x0 x1 => ?_, fun x x0 x1 => ?_, c, e⟩
  · have y := a x x0 x1
    unfold tau at y ⊢
    rw [if_pos x1] at y
    rw [if_neg (by omega)]; exact y
  · have y := b x x0 x1
    refine ⟨y.1, y.2.1, y.2.2.1, y.2.2.2.1, y.2.2.2.2.1, ?_⟩
    have z := y.2.2.2.2.2
    unfold tau at z ⊢
    rw [if_neg (by omega)]
    split at z <;> omega
/-- a change of ship s alone -/
theorem LI.chg {last st s t : Int} {u v : LnS} (L : LI last st s t u) (s0 : 0 ≤ s) (s1 : s < last) (e : ∀ x, x ≠ s → Lq v x = Lq u x ∧ Lal v x = Lal u x ∧ Lfr v x = Lfr u x ∧ Lgo v x = Lgo u x ∧ Llo v x = Llo u x) (et : Ltl v = Ltl u) (eg : Lgt v = Lgt u) (eh : Lhd v = Lhd u)
    (h1 : LA st (t + 1) (Lal v s) (Lfr v s) (Lgt u (s + 1))) (h2 : ∀ w ∈ Lq v s, isHo w) (h3 : ((Lq v s).length : Int) ≤ Ltl u s) (h4 : Llo v s = 0 ∨ Llo v s = 1) (h5 : 0 ≤ Lgo v s ∧ Lgo v s ≤ t + 1 - st) : LI last st (s + 1) t v := by
  obtain ⟨a, b, c, f⟩ := L
  refine ⟨fun x x0 x1 => ?_, fun x x0 x1 => ?_, by rw [eg]; exact c, by rw [eh, eg]; exact f⟩
  · rw [eg]
    by_cases z : x = s
    · subst z
      refine ⟨?_, h2⟩
      unfold tau; rw [if_pos (by omega)]; exact h1
    · obtain ⟨e1, e2, e3, _⟩ := e x z
      rw [e1, e2, e3]
      have y := a x x0 x1
      unfold tau at y ⊢
      by_cases w : x < s
      · rw [if_pos w] at y; rw [if_pos (by omega)]; exact y
      · rw [if_neg w] at y; rw [if_neg (by omega)]; exact y
  · rw [eg, et]
    have y := b x x0 x1
    by_cases z : x = s
    · subst z
      refine ⟨y.1, y.2.1, h3, h4, h5.1, ?_⟩
      unfold tau; rw [if_pos (by omega)]; exact h5.2
    · obtain ⟨e1, _, _, e4, e5⟩ := e x z
      rw [e1, e4, e5]
      refine ⟨y.1, y.2.1, y.2.2.1, y.2.2.2.1, y.2.2.2.2.1, ?_⟩
      have w := y.2.2.2.2.2
      unfold tau at w ⊢
      split at w <;> split <;> omega
theorem LI.stay {last st s t : Int} {u : LnS} (L : LI last st s t u) (s0 : 0 ≤ s) (s1 : s < last) (h1 : LA st (t + 1) (Lal u s) (Lfr u s) (Lgt u (s + 1))) : LI last st (s + 1) t u := by
  have a := (L.1 s s0 s1).2
  have b := L.2.1 s s0 (by omega)
  have w := b.2.2.2.2.2
  unfold tau at w
  rw [if_neg (by omega)] at w
  exact L.chg s0 s1 (fun x _ => ⟨rfl, rfl, rfl, rfl, rfl⟩) rfl rfl rfl h1 a b.2.2.1 b.2.2.2.1 ⟨b.2.2.2.2.1, by omega⟩
theorem Rd.leng {W : Int → Int → Prop} {v : Int} {l : List Int} (R : Rd W v l) : (l.length : Int) ≤ rl v := by
  have := Sp.len R (rl_in v).1
  omega
theorem SeenQ.leng {h : PH} {W : Int → Int → Prop} {dm w : Int} {l : List Int} (g : isHo w) (hW : ∀ c id, W c id → 0 ≤ id ∧ id < 40) (Q : SeenQ h W dm w l) : okl l ∧ 1 ≤ l.length ∧ (l.length : Int) ≤ rl w := by
  obtain ⟨c, m, ho, R⟩ := Q
  have b := rl_in w
  have gp := g.1
  have t := told_rl ho
  have r : rl (nu c (rl w).toNat) = rl w := by
    have hin : ∀ i : Nat, i < (rl w).toNat → 1 ≤ c i ∧ c i ≤ 29 := fun i hi => by
      have gi := g.2 i (by omega) (by omega)
      exact (m i (by omega)).in gi.1 gi.2.1
    rw [rl_nu (by omega) (by omega) hin, Int.toNat_of_nonneg b.1]
  have le := R.leng
  have tr : rl (told (nu c (rl w).toNat)) = rl w := t.2.trans r
  rw [tr] at le
  refine ⟨Rd.ok hW R, ?_, le⟩
  have := Rd.ne t.1.1 R
  cases l with
  | nil => exact absurd rfl this
  | cons a b => exact Nat.succ_le_succ (Nat.zero_le _)
/-- the ways for l -/
theorem lB_ok {h : PH} {a k s t : Int} {l : List Int} (R : BkR h a k) : ∀ i, 0 ≤ i → i ≤ (l.length : Int) → bOk (hstF h s) (plnF h k s t (zh h t)) l.length (lB h k s t l) i := fun i i0 i1 => R.bok l.length i (by omega) i1
theorem lB_in {h : PH} {a k s t : Int} {l : List Int} (R : BkR h a k) (b : (lB h k s t l 0).1 < 1000) : 0 ≤ (lB h k s t l 0).1 ∧ (lB h k s t l 0).1 ≤ l.length := by
  rcases lB_ok (s := s) (t := t) (l := l) R 0 (Int.le_refl 0) (by omega) with w | ⟨w, _⟩ <;> omega
theorem lH_len {h : PH} {a k s t : Int} {l : List Int} (R : BkR h a k) (b : (lB h k s t l 0).1 < 1000) : ((lH h k s t l).length : Int) = (lB h k s t l 0).1 :=
  pth_len (lB_ok R) l.length 0 (by omega) (Int.le_refl 0) (by omega) b
theorem LI.step {h : PH} {a k last st s t : Int} {u : LnS} (R : BkR h a k) (F : FI h) (L : LI last st s t u) (s0 : 0 ≤ s) (s1 : s < last) (l9 : last ≤ 9) : LI last st (s + 1) t (lstp h k last s t u) := by
  have La := (L.1 s s0 s1).1
  have Lh := (L.1 s s0 s1).2
  have Lb := L.2.1 s s0 (by omega)
  have t1 : tau s t s = t := if_neg (by omega)
  rw [t1] at La Lb
  by_cases c1 : Lal u s = 0
  · have La' : 5 * Lgt u (s + 1) ≤ 4 * (t - st) := by
      rcases La with ⟨_, b⟩ | ⟨b, _⟩
      · exact b
      · have := b.pos; omega
    cases e : Lq u s with
    | nil => rw [lstp_none c1 e]; exact L.stay s0 s1 (Or.inl ⟨c1, by omega⟩)
    | cons w r =>
      rw [lstp_bend c1 e]
      rw [e] at Lh Lb
      have hw := Lh w List.mem_cons_self
      have b := rl_in w
      refine L.chg s0 s1 (fun x hx => ⟨up_ne hx, up_ne hx, up_ne hx, rfl, rfl⟩) rfl rfl rfl ?_ ?_ ?_ Lb.2.2.2.1 ⟨Lb.2.2.2.2.1, by have := Lb.2.2.2.2.2; show Lgo u s ≤ _; omega⟩
      · show LA st (t + 1) (up (Lal u) s w s) (up (Lfr u) s (t + rl w) s) (Lgt u (s + 1))
        rw [up_eq, up_eq]
        have g0 := (L.2.1 (s + 1) (by omega) (by omega)).1
        exact Or.inr ⟨hw, by omega, by omega, by omega, by omega⟩
      · show ∀ x ∈ up (Lq u) s r s, isHo x
        rw [up_eq]; exact fun x hx => Lh x (List.mem_cons_of_mem _ hx)
      · show ((up (Lq u) s r s).length : Int) ≤ Ltl u s
        rw [up_eq]
        have := Lb.2.2.1
        rw [List.length_cons] at this
        omega
  · obtain ⟨g, b1, b2, b3, b4⟩ : isHo (Lal u s) ∧ st ≤ Lfr u s - rl (Lal u s) ∧ Lfr u s - rl (Lal u s) < t ∧ t ≤ Lfr u s + 19 ∧ 5 * Lgt u (s + 1) ≤ 4 * (Lfr u s - rl (Lal u s) - st) := by
      rcases La with ⟨b, _⟩ | b
      · exact absurd b c1
      · exact b
    have rb := rl_in (Lal u s)
    by_cases c2 : t < Lfr u s
    · rw [lstp_wait c1 c2]; exact L.stay s0 s1 (Or.inr ⟨g, b1, by omega, by omega, b4⟩)
    · by_cases c3 : ∃ l, only (SQs h k s t (Lal u s)) l
      · obtain ⟨l, o⟩ := c3
        rw [lstp_read c1 c2 o]
        obtain ⟨ok, l1, l4⟩ := SeenQ.leng g (fun c id y => y.in R.2.1) ((o l).2 rfl)
        have rp := g.1
        have G : 5 * (Lgt u (s + 1) + l.length) ≤ 4 * (t + 1 - st) := by omega
        -- what hearL makes of it
        have H : LI last st (s + 1) t (hearL last (s + 1) t l (readL s u)) := by
          obtain ⟨a1, a2, a3, a4⟩ := L
          refine ⟨fun x x0 x1 => ?_, fun x x0 x1 => ?_, ?_, ?_⟩
          · by_cases z : x = s
            · subst z
              refine ⟨?_, Lh⟩
              show LA st (tau (x + 1) t x) (up (Lal u) x 0 x) (Lfr u x) (up (Lgt u) (x + 1) (Lgt u (x + 1) + l.length) (x + 1))
              unfold tau
              rw [up_eq, up_eq, if_pos (by omega)]
              exact Or.inl ⟨rfl, G⟩
            · have y := a1 x x0 x1
              refine ⟨?_, y.2⟩
              show LA st (tau (s + 1) t x) (up (Lal u) s 0 x) (Lfr u x) (up (Lgt u) (s + 1) (Lgt u (s + 1) + l.length) (x + 1))
              rw [up_ne z, up_ne (by omega)]
              have y := y.1
              unfold tau at y ⊢
              by_cases w : x < s
              · rw [if_pos w] at y; rw [if_pos (by omega)]; exact y
              · rw [if_neg w] at y; rw [if_neg (by omega)]; exact y
          · have y := a2 x x0 x1
            show 0 ≤ up (Lgt u) (s + 1) (Lgt u (s + 1) + l.length) x ∧ Ltl u x ≤ (if x = 0 then 12 else up (Lgt u) (s + 1) (Lgt u (s + 1) + l.length) x) ∧ ((Lq u x).length : Int) ≤ Ltl u x ∧ (Llo u x = 0 ∨ Llo u x = 1) ∧ 0 ≤ up (Lgo u) s (Lgo u s + 1) x ∧ up (Lgo u) s (Lgo u s + 1) x ≤ tau (s + 1) t x - st
            have yg : Lgt u x ≤ up (Lgt u) (s + 1) (Lgt u (s + 1) + l.length) x := by
              by_cases z : x = s + 1
              · rw [z, up_eq]; omega
              · rw [up_ne z]; exact Int.le_refl _
            refine ⟨by omega, ?_, y.2.2.1, y.2.2.2.1, ?_⟩
            · have w := y.2.1
              split <;> split at w <;> omega
            · have w := y.2.2.2.2
              unfold tau at w ⊢
              by_cases z : x = s
              · subst z; rw [up_eq]; rw [if_neg (by omega)] at w; rw [if_pos (by omega)]; omega
              · rw [up_ne z]; split at w <;> split <;> omega
          · show up (Lgt u) (s + 1) (Lgt u (s + 1) + l.length) 0 = 0
            rw [up_ne (by omega)]; exact a3
          · show (((if s + 1 = last then Lhd u ++ l else Lhd u).length : Nat) : Int) = up (Lgt u) (s + 1) (Lgt u (s + 1) + l.length) last
            by_cases z : s + 1 = last
            · rw [if_pos z, ← z, up_eq, List.length_append]; rw [← z] at a4; show ((_ + _ : Nat) : Int) = _; omega
            · rw [if_neg z, up_ne (fun y => z y.symm)]; exact a4
        -- and what passL makes of that
        generalize hv : hearL last (s + 1) t l (readL s u) = v at H
        have Gv : (l.length : Int) ≤ Lgt v (s + 1) - Lgt u (s + 1) := by rw [← hv]; show _ ≤ up (Lgt u) (s + 1) (Lgt u (s + 1) + l.length) (s + 1) - _; rw [up_eq]; omega
        have Tv : Ltl v (s + 1) = Ltl u (s + 1) := by rw [← hv]; rfl
        unfold passL
        by_cases z : s + 1 < last ∧ Llo v (s + 1) = 0
        · rw [if_pos z]
          obtain ⟨a1, a2, a3, a4⟩ := H
          by_cases y : (lB h k (s + 1) t l 0).1 < 1000
          · rw [if_pos y]
            have bi := lB_in R y
            have hl := lH_len R y
            have R3 : gv h 87 (s + 1) ≤ 3 := by have := F.rp (s + 1) (by omega) (by omega); omega
            have ho : ∀ w ∈ lH h k (s + 1) t l, isHo w := pth_ho R3 (lB_ok R) l.length 0 (Int.le_refl 0) (by omega) y
            refine ⟨fun x x0 x1 => ⟨(a1 x x0 x1).1, ?_⟩, fun x x0 x1 => ?_, a3, a4⟩
            · show ∀ w ∈ up (Lq v) (s + 1) (Lq v (s + 1) ++ lH h k (s + 1) t l) x, isHo w
              by_cases w : x = s + 1
              · rw [w, up_eq]; intro e he
                rcases List.mem_append.mp he with e1 | e1
                · exact (a1 (s + 1) (by omega) z.1).2 e e1
                · exact ho e e1
              · rw [up_ne w]; exact (a1 x x0 x1).2
            · have e := a2 x x0 x1
              show 0 ≤ Lgt v x ∧ up (Ltl v) (s + 1) (Ltl v (s + 1) + (lB h k (s + 1) t l 0).1) x ≤ (if x = 0 then 12 else Lgt v x) ∧ ((up (Lq v) (s + 1) (Lq v (s + 1) ++ lH h k (s + 1) t l) x).length : Int) ≤ up (Ltl v) (s + 1) (Ltl v (s + 1) + (lB h k (s + 1) t l 0).1) x ∧ (Llo v x = 0 ∨ Llo v x = 1) ∧ 0 ≤ Lgo v x ∧ Lgo v x ≤ tau (s + 1) t x - st
              refine ⟨e.1, ?_, ?_, e.2.2.2⟩
              · by_cases w : x = s + 1
                · rw [w, up_eq, if_neg (by omega)]
                  have e0 := (L.2.1 (s + 1) (by omega) (by omega)).2.1
                  rw [if_neg (by omega)] at e0
                  omega
                · rw [up_ne w]; exact e.2.1
              · by_cases w : x = s + 1
                · rw [w, up_eq, up_eq, List.length_append]
                  have e0 := (a2 (s + 1) (by omega) (by omega)).2.2.1
                  show ((_ + _ : Nat) : Int) ≤ _
                  omega
                · rw [up_ne w, up_ne w]; exact e.2.2.1
          · rw [if_neg y]
            refine ⟨fun x x0 x1 => a1 x x0 x1, fun x x0 x1 => ?_, a3, a4⟩
            have e := a2 x x0 x1
            refine ⟨e.1, e.2.1, e.2.2.1, ?_, e.2.2.2.2⟩
            show up (Llo v) (s + 1) 1 x = 0 ∨ up (Llo v) (s + 1) 1 x = 1
            by_cases w : x = s + 1
            · rw [w, up_eq]; exact Or.inr rfl
            · rw [up_ne w]; exact e.2.2.2.1
        · rw [if_neg z]; exact H
      · by_cases c4 : t - Lfr u s = 19
        · rw [lstp_lose c1 c2 c3 c4]
          refine L.chg s0 s1 (fun x hx => ⟨up_ne hx, up_ne hx, rfl, rfl, up_ne hx⟩) rfl rfl rfl ?_ ?_ ?_ ?_ ⟨Lb.2.2.2.2.1, by have := Lb.2.2.2.2.2; show Lgo u s ≤ _; omega⟩
          · show LA st (t + 1) (up (Lal u) s 0 s) (Lfr u s) (Lgt u (s + 1))
            rw [up_eq]
            exact Or.inl ⟨rfl, by omega⟩
          · show ∀ x ∈ up (Lq u) s [] s, isHo x
            rw [up_eq]; exact fun x hx => absurd hx List.not_mem_nil
          · show ((up (Lq u) s [] s).length : Int) ≤ Ltl u s
            rw [up_eq]
            have := Lb.2.2.1
            show (0 : Int) ≤ _
            omega
          · show up (Llo u) s 1 s = 0 ∨ up (Llo u) s 1 s = 1
            rw [up_eq]; exact Or.inr rfl
        · rw [lstp_stay c1 c2 c3 c4]; exact L.stay s0 s1 (Or.inr ⟨g, b1, by omega, by omega, b4⟩)
theorem l0_LI {q : List Int} {last st : Int} (h : ∀ w ∈ q, isHo w) (h12 : q.length ≤ 12) : LI last st 0 st (l0 q) := by
  refine ⟨fun x x0 x1 => ⟨Or.inl ⟨rfl, by show 5 * 0 ≤ 4 * ((if x < 0 then st + 1 else st) - st); rw [if_neg (by omega)]; omega⟩, ?_⟩, fun x x0 x1 => ?_, rfl, rfl⟩
  · show ∀ w ∈ (if x = 0 then q else []), isHo w
    split
    · exact h
    · exact fun w hw => absurd hw List.not_mem_nil
  · show (0 : Int) ≤ 0 ∧ (if x = 0 then (q.length : Int) else 0) ≤ (if x = 0 then 12 else 0) ∧ ((if x = 0 then q else []).length : Int) ≤ (if x = 0 then (q.length : Int) else 0) ∧ ((0 : Int) = 0 ∨ (0 : Int) = 1) ∧ (0 : Int) ≤ 0 ∧ (0 : Int) ≤ (if x < 0 then st + 1 else st) - st
    rw [if_neg (show ¬ x < 0 by omega)]
    refine ⟨by omega, ?_, ?_, Or.inl rfl, by omega, by omega⟩
    · split <;> omega
    · split
      · exact Int.le_refl _
      · exact Int.le_refl 0

