/-! THE FLAGS: class and model alike -/
def flA (a : Int) : Bool := (6 ≤ a && a ≤ 10) || (86 ≤ a && a ≤ 91)
def FI (h : PH) : Prop := (∀ s, 0 ≤ s → s < 10 → gv h 6 s = gv h 86 s ∧ 0 ≤ gv h 86 s ∧ gv h 86 s < 67108864) ∧
  (∀ s, 0 ≤ s → s < 10 → gv h 7 s = gv h 87 s ∧ 0 ≤ gv h 87 s ∧ gv h 87 s ≤ 3) ∧
  (∀ s, 0 ≤ s → s < 9 → gv h 8 s = gv h 91 s ∧ 0 ≤ gv h 91 s ∧ gv h 91 s ≤ 9) ∧
  (∀ i, 0 ≤ i → i < 676 → gv h 9 i = gv h 88 i ∧ 0 ≤ gv h 88 i ∧ gv h 88 i ≤ 18) ∧
  (∀ f g, 0 ≤ f → f < 26 → 0 ≤ g → g < 26 → gv h 88 (f * 26 + g) = gv h 88 (g * 26 + f)) ∧
  (∀ f, 0 ≤ f → f < 26 → gv h 88 (f * 26 + f) = 0) ∧
  (∀ f, 0 ≤ f → f < 26 → cntA h 88 f 26 ≤ 3) ∧
  (∀ t : Nat, t < 1000 → (gv h 89 t = 0 ∨ gv h 89 t = 1) ∧ 0 ≤ gv h 90 t ∧ gv h 90 t ≤ 9) ∧
  (∀ t : Nat, t < 1000 → gv h 10 t = 2 * hz h (t + 1) + gv h 89 t)
theorem FI.mk {h : PH} (lk : ∀ s, 0 ≤ s → s < 10 → gv h 6 s = gv h 86 s ∧ 0 ≤ gv h 86 s ∧ gv h 86 s < 67108864) (rp : ∀ s, 0 ≤ s → s < 10 → gv h 7 s = gv h 87 s ∧ 0 ≤ gv h 87 s ∧ gv h 87 s ≤ 3) (fr : ∀ s, 0 ≤ s → s < 9 → gv h 8 s = gv h 91 s ∧ 0 ≤ gv h 91 s ∧ gv h 91 s ≤ 9) (al : ∀ i, 0 ≤ i → i < 676 → gv h 9 i = gv h 88 i ∧ 0 ≤ gv h 88 i ∧ gv h 88 i ≤ 18) (sy : ∀ f g, 0 ≤ f → f < 26 → 0 ≤ g → g < 26 → gv h 88 (f * 26 + g) = gv h 88 (g * 26 + f)) (dg : ∀ f, 0 ≤ f → f < 26 → gv h 88 (f * 26 + f) = 0) (cn : ∀ f, 0 ≤ f → f < 26 → cntA h 88 f 26 ≤ 3) (hn : ∀ t : Nat, t < 1000 → (gv h 89 t = 0 ∨ gv h 89 t = 1) ∧ 0 ≤ gv h 90 t ∧ gv h 90 t ≤ 9) (hm : ∀ t : Nat, t < 1000 → gv h 10 t = 2 * hz h (t + 1) + gv h 89 t) : FI h := ⟨lk, rp, fr, al, sy, dg, cn, hn, hm⟩
theorem FI.lk {h : PH} (F : FI h) : ∀ s, 0 ≤ s → s < 10 → gv h 6 s = gv h 86 s ∧ 0 ≤ gv h 86 s ∧ gv h 86 s < 67108864 := F.1
theorem FI.rp {h : PH} (F : FI h) : ∀ s, 0 ≤ s → s < 10 → gv h 7 s = gv h 87 s ∧ 0 ≤ gv h 87 s ∧ gv h 87 s ≤ 3 := F.2.1
theorem FI.fr {h : PH} (F : FI h) : ∀ s, 0 ≤ s → s < 9 → gv h 8 s = gv h 91 s ∧ 0 ≤ gv h 91 s ∧ gv h 91 s ≤ 9 := F.2.2.1
theorem FI.al {h : PH} (F : FI h) : ∀ i, 0 ≤ i → i < 676 → gv h 9 i = gv h 88 i ∧ 0 ≤ gv h 88 i ∧ gv h 88 i ≤ 18 := F.2.2.2.1
theorem FI.sy {h : PH} (F : FI h) : ∀ f g, 0 ≤ f → f < 26 → 0 ≤ g → g < 26 → gv h 88 (f * 26 + g) = gv h 88 (g * 26 + f) := F.2.2.2.2.1
theorem FI.dg {h : PH} (F : FI h) : ∀ f, 0 ≤ f → f < 26 → gv h 88 (f * 26 + f) = 0 := F.2.2.2.2.2.1
theorem FI.cn {h : PH} (F : FI h) : ∀ f, 0 ≤ f → f < 26 → cntA h 88 f 26 ≤ 3 := F.2.2.2.2.2.2.1
theorem FI.hn {h : PH} (F : FI h) : ∀ t : Nat, t < 1000 → (gv h 89 t = 0 ∨ gv h 89 t = 1) ∧ 0 ≤ gv h 90 t ∧ gv h 90 t ≤ 9 := F.2.2.2.2.2.2.2.1
theorem FI.hm {h : PH} (F : FI h) : ∀ t : Nat, t < 1000 → gv h 10 t = 2 * hz h (t + 1) + gv h 89 t := F.2.2.2.2.2.2.2.2
theorem cntA_congr {h h' : PH} {a a' f : Int} : ∀ n : Nat, (∀ g : Nat, g < n → gv h a (f * 26 + g) = gv h' a' (f * 26 + g)) → cntA h a f n = cntA h' a' f n
  | 0, _ => rfl
  | n + 1, e => by unfold cntA; rw [cntA_congr n (fun g hg => e g (by omega)), e n (by omega)]
theorem hz_congr {h h' : PH} : ∀ n : Nat, (∀ t : Nat, t < n → gv h' 89 t = gv h 89 t ∧ gv h' 90 t = gv h 90 t) → hz h' n = hz h n
  | 0, _ => rfl
  | n + 1, e => by unfold hz; rw [hz_congr n (fun t ht => e t (by omega)), (e n (by omega)).1, (e n (by omega)).2]
theorem hz_in {h : PH} (hn : ∀ t : Nat, t < 1000 → (gv h 89 t = 0 ∨ gv h 89 t = 1) ∧ 0 ≤ gv h 90 t ∧ gv h 90 t ≤ 9) : ∀ n : Nat, n ≤ 1000 → 0 ≤ hz h n ∧ hz h n ≤ 9
  | 0, _ => ⟨Int.le_refl 0, show (0 : Int) ≤ 9 by decide⟩
  | n + 1, z => by
    unfold hz
    by_cases c : gv h 89 n = 0
    · rw [if_pos c]; exact hz_in hn n (by omega)
    · rw [if_neg c]; exact (hn n (by omega)).2
theorem FI.of {h h' : PH} (F : FI h) (e : ∀ a i, flA a = true → gv h' a i = gv h a i) : FI h' := by
  apply FI.mk
  · intro s; rw [e 6 s rfl, e 86 s rfl]; exact F.lk s
  · intro s; rw [e 7 s rfl, e 87 s rfl]; exact F.rp s
  · intro s; rw [e 8 s rfl, e 91 s rfl]; exact F.fr s
  · intro s; rw [e 9 s rfl, e 88 s rfl]; exact F.al s
  · intro f g; rw [e 88 _ rfl, e 88 _ rfl]; exact F.sy f g
  · intro f; rw [e 88 _ rfl]; exact F.dg f
  · intro f f0 f1; rw [cntA_congr (h' := h) (a' := 88) 26 (fun g _ => e 88 _ rfl)]; exact F.cn f f0 f1
  · intro t; rw [e 89 _ rfl, e 90 _ rfl]; exact F.hn t
  · intro t; rw [e 89 _ rfl, e 10 _ rfl, hz_congr (t + 1) (fun t _ => ⟨e 89 _ rfl, e 90 _ rfl⟩)]; exact F.hm t
theorem FI.keep {A : Int → Int → Bool} {h h' : PH} (F : FI h) (k : Keep A h h') (d : ∀ a i, flA a = true → A a i = false) : FI h' :=
  F.of (fun a i z => k.1 a i (d a i z))
theorem FI_locker {h h1 h2 : PH} {a b c r r' : Int} (F : FI h) (x : LockerR 6 7 a b c h r h1) (m : LockerR 86 87 a b c h1 r' h2) : r = r' ∧ FI h2 := by
  rcases x with ⟨x1, x2, x3⟩ | ⟨x1, x2, x3⟩ <;> rcases m with ⟨m1, m2, m3⟩ | ⟨m1, m2, m3⟩
  · subst x3; subst m3; exact ⟨by omega, F⟩
  · exact absurd m1 x1
  · exact absurd x1 m1
  · refine ⟨by omega, ?_⟩
    have E : ∀ u i, u ≠ 6 → u ≠ 7 → u ≠ 86 → u ≠ 87 → gv h2 u i = gv h u i := fun u i a b c d => by rw [m3, x3, sv_ne d, sv_ne c, sv_ne b, sv_ne a]
    apply FI.mk
    · intro s s0 s1
      rw [m3, x3]
      by_cases z : s = a
      · rw [z, sv_ne (by decide), sv_ne (by decide), sv_ne (by decide), sv_eq, sv_ne (by decide), sv_eq]; omega
      · rw [sv_ne (by decide), sv_ne (by decide), sv_ne (by decide), sv_nf z, sv_ne (by decide), sv_nf z, sv_ne (by decide), sv_ne (by decide)]; exact F.lk s s0 s1
    · intro s s0 s1
      rw [m3, x3]
      by_cases z : s = a
      · rw [z, sv_ne (by decide), sv_ne (by decide), sv_eq, sv_eq]; omega
      · rw [sv_ne (by decide), sv_ne (by decide), sv_nf z, sv_ne (by decide), sv_nf z, sv_ne (by decide), sv_ne (by decide), sv_ne (by decide)]; exact F.rp s s0 s1
    · intro s; rw [E 8 s (by decide) (by decide) (by decide) (by decide), E 91 s (by decide) (by decide) (by decide) (by decide)]; exact F.fr s
    · intro s; rw [E 9 s (by decide) (by decide) (by decide) (by decide), E 88 s (by decide) (by decide) (by decide) (by decide)]; exact F.al s
    · intro f g; rw [E 88 _ (by decide) (by decide) (by decide) (by decide), E 88 _ (by decide) (by decide) (by decide) (by decide)]; exact F.sy f g
    · intro f; rw [E 88 _ (by decide) (by decide) (by decide) (by decide)]; exact F.dg f
    · intro f f0 f1; rw [cntA_congr (h' := h) (a' := 88) 26 (fun g _ => E 88 _ (by decide) (by decide) (by decide) (by decide))]; exact F.cn f f0 f1
    · intro t; rw [E 89 _ (by decide) (by decide) (by decide) (by decide), E 90 _ (by decide) (by decide) (by decide) (by decide)]; exact F.hn t
    · intro t; rw [E 89 _ (by decide) (by decide) (by decide) (by decide), E 10 _ (by decide) (by decide) (by decide) (by decide), hz_congr (t + 1) (fun t _ => ⟨E 89 _ (by decide) (by decide) (by decide) (by decide), E 90 _ (by decide) (by decide) (by decide) (by decide)⟩)]; exact F.hm t
theorem FI_far {h h1 h2 : PH} {a b r r' : Int} (F : FI h) (x : FarR 8 a b h r h1) (m : FarR 91 a b h1 r' h2) : r = r' ∧ FI h2 := by
  rcases x with ⟨x1, x2, x3⟩ | ⟨x1, x2, x3⟩ <;> rcases m with ⟨m1, m2, m3⟩ | ⟨m1, m2, m3⟩
  · subst x3; subst m3; exact ⟨by omega, F⟩
  · exact absurd m1 x1
  · exact absurd x1 m1
  · refine ⟨by omega, ?_⟩
    have E : ∀ u i, u ≠ 8 → u ≠ 91 → gv h2 u i = gv h u i := fun u i a b => by rw [m3, x3, sv_ne b, sv_ne a]
    apply FI.mk
    · intro s; rw [E 6 s (by decide) (by decide), E 86 s (by decide) (by decide)]; exact F.lk s
    · intro s; rw [E 7 s (by decide) (by decide), E 87 s (by decide) (by decide)]; exact F.rp s
    · intro s s0 s1
      rw [m3, x3]
      by_cases z : s = a
      · rw [z, sv_ne (by decide), sv_eq, sv_eq]; omega
      · rw [sv_ne (by decide), sv_nf z, sv_nf z, sv_ne (by decide)]; exact F.fr s s0 s1
    · intro s; rw [E 9 s (by decide) (by decide), E 88 s (by decide) (by decide)]; exact F.al s
    · intro f g; rw [E 88 _ (by decide) (by decide), E 88 _ (by decide) (by decide)]; exact F.sy f g
    · intro f; rw [E 88 _ (by decide) (by decide)]; exact F.dg f
    · intro f f0 f1; rw [cntA_congr (h' := h) (a' := 88) 26 (fun g _ => E 88 _ (by decide) (by decide))]; exact F.cn f f0 f1
    · intro t; rw [E 89 _ (by decide) (by decide), E 90 _ (by decide) (by decide)]; exact F.hn t
    · intro t; rw [E 89 _ (by decide) (by decide), E 10 _ (by decide) (by decide), hz_congr (t + 1) (fun t _ => ⟨E 89 _ (by decide) (by decide), E 90 _ (by decide) (by decide)⟩)]; exact F.hm t
theorem cnt_one {h h' : PH} {a f g0 e : Int} (d0 : 0 ≤ e) (ho : ∀ g : Nat, g < 26 → (g : Int) ≠ g0 → gv h' a (f * 26 + g) = gv h a (f * 26 + g)) (hg : 0 < gv h' a (f * 26 + g0) → ¬ 0 < gv h a (f * 26 + g0) → 1 ≤ e) :
    ∀ n : Nat, n ≤ 26 → cntA h' a f n ≤ cntA h a f n + if g0 < (n : Int) then e else 0 := by
  intro n
  induction n with
  | zero => intro _; show (0 : Int) ≤ 0 + _; split <;> omega
  | succ n ih =>
    intro hn
    have ih := ih (by omega)
    show cntA h' a f n + _ ≤ cntA h a f n + _ + _
    by_cases z : (n : Int) = g0
    · rw [if_neg (by omega)] at ih
      rw [if_pos (show g0 < ((n + 1 : Nat) : Int) by omega), z]
      by_cases c1 : 0 < gv h' a (f * 26 + g0)
      · by_cases c2 : 0 < gv h a (f * 26 + g0)
        · rw [if_pos c1, if_pos c2]; omega
        · rw [if_pos c1, if_neg c2]; have := hg c1 c2; omega
      · rw [if_neg c1]; split <;> omega
    · rw [ho n (by omega) z]
      have : (if g0 < (n : Int) then e else 0) = (if g0 < ((n + 1 : Nat) : Int) then e else 0) := by
        by_cases y : g0 < (n : Int)
        · rw [if_pos y, if_pos (by omega)]
        · rw [if_neg y, if_neg (by omega)]
      omega
theorem cell {f g x y : Int} (f0 : 0 ≤ f) (g0 : 0 ≤ g) (g1 : g < 26) (x0 : 0 ≤ x) (y0 : 0 ≤ y) (y1 : y < 26) (e : x * 26 + y = f * 26 + g) : x = f ∧ y = g := by omega
theorem FI_like {h h1 h2 : PH} {f g e r r' : Int} (F : FI h) (x : LikeX f g e h r h1) (m : LikeM f g e h1 r' h2) : r = r' ∧ FI h2 := by
  have cc : ∀ u, 0 ≤ u → u < 26 → cntA h 9 u 26 = cntA h 88 u 26 := fun u u0 u1 => cntA_congr 26 (fun v _ => (F.al _ (by omega) (by omega)).1)
  rcases x with ⟨x1, x2, x3⟩ | ⟨x1, xr, x2, x3⟩ | ⟨x1, xr, x2, x3⟩ <;> rcases m with ⟨m1, m2, m3⟩ | ⟨m1, mr, m2, m3⟩ | ⟨m1, mr, m2, m3⟩
  · subst x3; subst m3; exact ⟨by omega, F⟩
  · exact absurd m1 x1
  · exact absurd m1 x1
  · exact absurd x1 m1
  · subst x3; subst m3; exact ⟨by omega, F⟩
  · exfalso
    obtain ⟨a1, a2, a3, a4, a5, a6, a7⟩ := x1
    subst x3
    rw [cc f a1 a2, cc g a3 a4, (F.al (f * 26 + g) (by omega) (by omega)).1] at xr
    rw [Int.mul_comm 26 f] at mr
    have := F.cn f a1 a2
    have := F.cn g a3 a4
    omega
  · exact absurd x1 m1
  · exfalso
    obtain ⟨a1, a2, a3, a4, a5, a6, a7⟩ := x1
    have q9 : ∀ i, gv h1 88 i = gv h 88 i := fun i => by rw [x3, sv_ne (by decide), sv_ne (by decide)]
    rw [cc f a1 a2, cc g a3 a4, (F.al (f * 26 + g) (by omega) (by omega)).1] at xr
    rw [Int.mul_comm 26 f, q9, cntA_congr (h' := h) (a' := 88) 26 (fun v _ => q9 _), cntA_congr (h' := h) (a' := 88) 26 (fun v _ => q9 _)] at mr
    omega
  · obtain ⟨a1, a2, a3, a4, a5, a6, a7⟩ := x1
    refine ⟨by omega, ?_⟩
    rw [cc f a1 a2, cc g a3 a4, (F.al (f * 26 + g) (by omega) (by omega)).1] at xr
    rw [Int.mul_comm 26 f, Int.mul_comm 26 g] at m3
    have E : ∀ u i, u ≠ 9 → u ≠ 88 → gv h2 u i = gv h u i := fun u i a b => by rw [m3, x3, sv_ne b, sv_ne b, sv_ne a, sv_ne a]
    have e1 : gv h2 88 (f * 26 + g) = e := by rw [m3, sv_nf (by omega), sv_eq]
    have e2 : gv h2 88 (g * 26 + f) = e := by rw [m3, sv_eq]
    have e3 : ∀ i, i ≠ f * 26 + g → i ≠ g * 26 + f → gv h2 88 i = gv h 88 i := fun i i1 i2 => by rw [m3, sv_nf i2, sv_nf i1, x3, sv_ne (by decide), sv_ne (by decide)]
    have e4 : gv h2 9 (f * 26 + g) = e := by rw [m3, sv_ne (by decide), sv_ne (by decide), x3, sv_nf (by omega), sv_eq]
    have e5 : gv h2 9 (g * 26 + f) = e := by rw [m3, sv_ne (by decide), sv_ne (by decide), x3, sv_eq]
    have e6 : ∀ i, i ≠ f * 26 + g → i ≠ g * 26 + f → gv h2 9 i = gv h 9 i := fun i i1 i2 => by rw [m3, sv_ne (by decide), sv_ne (by decide), x3, sv_nf i2, sv_nf i1]
    apply FI.mk
    · intro s; rw [E 6 s (by decide) (by decide), E 86 s (by decide) (by decide)]; exact F.lk s
    · intro s; rw [E 7 s (by decide) (by decide), E 87 s (by decide) (by decide)]; exact F.rp s
    · intro s; rw [E 8 s (by decide) (by decide), E 91 s (by decide) (by decide)]; exact F.fr s
    · intro i i0 i1
      by_cases z : i = f * 26 + g
      · rw [z, e4, e1]; omega
      · by_cases z2 : i = g * 26 + f
        · rw [z2, e5, e2]; omega
        · rw [e6 i z z2, e3 i z z2]; exact F.al i i0 i1
    · intro u v u0 u1 v0 v1
      by_cases z : u * 26 + v = f * 26 + g
      · have := cell a1 a3 a4 u0 v0 v1 z
        rw [this.1, this.2, e1, e2]
      · by_cases z2 : u * 26 + v = g * 26 + f
        · have := cell a3 a1 a2 u0 v0 v1 z2
          rw [this.1, this.2, e1, e2]
        · rw [e3 _ z z2, e3 _ (by omega) (by omega)]; exact F.sy u v u0 u1 v0 v1
    · intro u u0 u1
      rw [e3 _ (by omega) (by omega)]; exact F.dg u u0 u1
    · intro u u0 u1
      have sy := F.sy f g a1 a2 a3 a4
      have k1 := F.cn f a1 a2
      have k2 := F.cn g a3 a4
      by_cases zf : u = f
      · subst zf
        have := cnt_one (h := h) (h' := h2) (a := 88) (f := u) (g0 := g) (e := if 0 < e ∧ gv h 88 (u * 26 + g) = 0 then 1 else 0) (by split <;> omega) (fun v hv hw => e3 _ (by omega) (by omega)) (fun c1 c2 => by rw [e1] at c1; have := (F.al (u * 26 + g) (by omega) (by omega)).2.1; rw [if_pos ⟨c1, by omega⟩]; omega) 26 (Nat.le_refl 26)
        rw [if_pos (show g < ((26 : Nat) : Int) by omega)] at this
        by_cases y : 0 < e ∧ gv h 88 (u * 26 + g) = 0
        · rw [if_pos y] at this; omega
        · rw [if_neg y] at this; omega
      · by_cases zg : u = g
        · subst zg
          have := cnt_one (h := h) (h' := h2) (a := 88) (f := u) (g0 := f) (e := if 0 < e ∧ gv h 88 (u * 26 + f) = 0 then 1 else 0) (by split <;> omega) (fun v hv hw => e3 _ (by omega) (by omega)) (fun c1 c2 => by rw [e2] at c1; have := (F.al (u * 26 + f) (by omega) (by omega)).2.1; rw [if_pos ⟨c1, by omega⟩]; omega) 26 (Nat.le_refl 26)
          rw [if_pos (show f < ((26 : Nat) : Int) by omega)] at this
          by_cases y : 0 < e ∧ gv h 88 (u * 26 + f) = 0
          · rw [if_pos y] at this; omega
          · rw [if_neg y] at this; omega
        · rw [cntA_congr (h' := h) (a' := 88) 26 (fun v hv => e3 _ (by omega) (by omega))]; exact F.cn u u0 u1
    · intro t; rw [E 89 _ (by decide) (by decide), E 90 _ (by decide) (by decide)]; exact F.hn t
    · intro t; rw [E 89 _ (by decide) (by decide), E 10 _ (by decide) (by decide), hz_congr (t + 1) (fun t _ => ⟨E 89 _ (by decide) (by decide), E 90 _ (by decide) (by decide)⟩)]; exact F.hm t
theorem hz_lo {h h' : PH} {m : Int} (e : ∀ t : Nat, (t : Int) < m → gv h' 89 t = gv h 89 t ∧ gv h' 90 t = gv h 90 t) (n : Nat) (hn : (n : Int) ≤ m) : hz h' n = hz h n :=
  hz_congr n (fun t ht => e t (by omega))
theorem hz_hi {h h' : PH} {m v : Int} (m0 : 0 ≤ m) (e : ∀ t : Nat, (t : Int) ≠ m → gv h' 89 t = gv h 89 t ∧ gv h' 90 t = gv h 90 t) (e1 : gv h' 89 m = 1) (e2 : gv h' 90 m = v) :
    ∀ n : Nat, m < n → (hz h' n = v ∧ (∀ t : Nat, m < t → t < n → gv h 89 t = 0)) ∨ (hz h' n = hz h n ∧ ∃ t : Nat, m < t ∧ t < n ∧ gv h 89 t ≠ 0) := by
  intro n
  induction n with
  | zero => intro hm; exfalso; omega
  | succ n ih =>
    intro hm
    by_cases z : m = n
    · refine Or.inl ⟨?_, fun t t0 t1 => by omega⟩
      unfold hz; rw [← z, e1, if_neg (by decide), e2]
    · have y := e n (fun w => z w.symm)
      unfold hz
      rw [y.1, y.2]
      by_cases c : gv h 89 n = 0
      · rw [if_pos c, if_pos c]
        rcases ih (by omega) with ⟨i1, i2⟩ | ⟨i1, t, t0, t1, t2⟩
        · exact Or.inl ⟨i1, fun t t0 t1 => by by_cases w : t = n; · rw [w]; exact c
                                              · exact i2 t t0 (by omega)⟩
        · exact Or.inr ⟨i1, t, t0, by omega, t2⟩
      · rw [if_neg c, if_neg c]
        exact Or.inr ⟨rfl, n, by omega, by omega, c⟩
theorem FI_haze {h h1 h2 : PH} {a b r r' : Int} (F : FI h) (x : HazeX a b h r h1) (m : HazeM a b h1 r' h2) : r = r' ∧ FI h2 := by
  rcases x with ⟨x1, x2, x3⟩ | ⟨x1, x2, k, ⟨t1, t2, t3, t4, t5, t6, t7⟩, tk⟩ <;> rcases m with ⟨m1, m2, m3⟩ | ⟨m1, m2, m3⟩
  · subst x3; subst m3; exact ⟨by omega, F⟩
  · exact absurd m1 x1
  · exact absurd x1 m1
  · obtain ⟨a0, a1, b0, b9⟩ := x1
    refine ⟨by omega, ?_⟩
    have q : ∀ u i, u ≠ 10 → gv h1 u i = gv h u i := fun u i hu => t3.1 u i (by unfold hazA; exact beq_false_of_ne hu)
    have E : ∀ u i, u ≠ 10 → u ≠ 89 → u ≠ 90 → gv h2 u i = gv h u i := fun u i z1 z2 z3 => by rw [m3, sv_ne z3, sv_ne z2]; exact q u i z1
    have e10 : ∀ i, gv h2 10 i = gv h1 10 i := fun i => by rw [m3, sv_ne (by decide), sv_ne (by decide)]
    have eo : ∀ t : Nat, (t : Int) ≠ a → gv h2 89 t = gv h 89 t ∧ gv h2 90 t = gv h 90 t := fun t z => by
      rw [m3, sv_ne (by decide), sv_nf z, sv_nf z, sv_ne (by decide)]; exact ⟨q _ _ (by decide), q _ _ (by decide)⟩
    have e89 : gv h2 89 a = 1 := by rw [m3, sv_ne (by decide), sv_eq]
    have e90 : gv h2 90 a = b := by rw [m3, sv_eq]
    apply FI.mk
    · intro s; rw [E 6 s (by decide) (by decide) (by decide), E 86 s (by decide) (by decide) (by decide)]; exact F.lk s
    · intro s; rw [E 7 s (by decide) (by decide) (by decide), E 87 s (by decide) (by decide) (by decide)]; exact F.rp s
    · intro s; rw [E 8 s (by decide) (by decide) (by decide), E 91 s (by decide) (by decide) (by decide)]; exact F.fr s
    · intro s; rw [E 9 s (by decide) (by decide) (by decide), E 88 s (by decide) (by decide) (by decide)]; exact F.al s
    · intro f g; rw [E 88 _ (by decide) (by decide) (by decide), E 88 _ (by decide) (by decide) (by decide)]; exact F.sy f g
    · intro f; rw [E 88 _ (by decide) (by decide) (by decide)]; exact F.dg f
    · intro f f0 f1; rw [cntA_congr (h' := h) (a' := 88) 26 (fun g _ => E 88 _ (by decide) (by decide) (by decide))]; exact F.cn f f0 f1
    · intro t ht
      by_cases z : (t : Int) = a
      · rw [z, e89, e90]; exact ⟨Or.inr rfl, b0, b9⟩
      · rw [(eo t z).1, (eo t z).2]; exact F.hn t ht
    · intro t ht
      rw [e10]
      by_cases z : (t : Int) < a
      · rw [t4 t z, hz_lo (m := a) (fun s hs => eo s (by omega)) (t + 1) (by omega), (eo t (by omega)).1]; exact F.hm t ht
      · rcases hz_hi a0 eo e89 e90 (t + 1) (by omega) with ⟨i1, i2⟩ | ⟨i1, s, s0, s1, s2⟩
        · by_cases y : (t : Int) = a
          · rw [i1, y, t5, e89]
          · have tk' : (t : Int) < k := by
              apply Decidable.byContradiction
              intro w
              have h1 := tk (by omega)
              have h2 := F.hm k.toNat (by omega)
              have h3 := i2 k.toNat (by omega) (by omega)
              rw [Int.toNat_of_nonneg (by omega)] at h2 h3
              omega
            rw [i1, (eo t y).1, i2 t (by omega) (by omega), (t6 t (by omega) tk').2]; omega
        · have hs := F.hm s (by omega)
          have hb := (F.hn s (by omega)).1
          have ks : k ≤ s := by
            apply Decidable.byContradiction
            intro w
            have := (t6 s s0 (by omega)).1
            omega
          rw [i1, (eo t (by omega)).1, t7 t (by omega)]; exact F.hm t ht
theorem FI.h10 {h : PH} (F : FI h) (t : Int) (t0 : 0 ≤ t) (t1 : t < 1000) : 0 ≤ gv h 10 t ∧ gv h 10 t ≤ 19 ∧ gv h 10 t / 2 = hz h (t + 1).toNat := by
  have a := F.hm t.toNat (by omega)
  have b := F.hn t.toNat (by omega)
  have c := hz_in F.hn (t + 1).toNat (by omega)
  rw [Int.toNat_of_nonneg t0] at a b
  rw [show t.toNat + 1 = (t + 1).toNat by omega] at a
  omega
theorem FI.f8 {h : PH} (F : FI h) (s : Int) (s0 : 0 ≤ s) (s1 : s < 9) : 0 ≤ gv h 8 s ∧ gv h 8 s ≤ 9 := by
  have := F.fr s s0 s1
  omega

