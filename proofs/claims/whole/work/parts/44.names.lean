/-! ROWS OF NAMES: in what ways a row of letters can be read, and lists of such ways -/
/-- sense j of book k is in force and has the code c; the name id stands for the code c -/
def Us (h : PH) (k s t z c j : Int) : Prop := 0 ≤ j ∧ j < gv h 79 k ∧ tv h k s t z j = 1 ∧ cd h k j = c
def Ws (h : PH) (k s t z c id : Int) : Prop := ∃ j, Us h k s t z c j ∧ fi h k j = id
theorem Ws.in {h : PH} {k s t z c id : Int} (w : Ws h k s t z c id) (n40 : gv h 79 k ≤ 40) : 0 ≤ id ∧ id < 40 := by
  obtain ⟨j, ⟨j0, j1, _, _⟩, e⟩ := w
  have := fi_in j0 j1
  omega
theorem Us_congr {h h' : PH} (K : Keep bkB h h') (k s t z c j : Int) : Us h' k s t z c j ↔ Us h k s t z c j := by
  obtain ⟨_, e2, _, _, _, e6⟩ := bk_congr K k
  unfold Us
  rw [e2, e6, tv_congr K]
theorem Ws_congr {h h' : PH} (K : Keep bkB h h') (k s t z : Int) : Ws h' k s t z = Ws h k s t z := by
  funext c id
  apply propext
  unfold Ws
  constructor
  · rintro ⟨j, a, b⟩; exact ⟨j, (Us_congr K _ _ _ _ _ _).1 a, by rw [← b, fi_congr K]⟩
  · rintro ⟨j, a, b⟩; exact ⟨j, (Us_congr K _ _ _ _ _ _).2 a, by rw [← b, fi_congr K]⟩
/-- len letters of the row v of n letters, from letter fr on -/
def sub (v n fr len : Int) : Int := v / 2 ^ (5 * (n - fr - len)).toNat % 2 ^ (5 * len).toNat
def Sp (W : Int → Int → Prop) (v n : Int) : Int → List Int → Prop
  | fr, [] => n ≤ fr
  | fr, id :: r => ∃ len, 1 ≤ len ∧ fr + len ≤ n ∧ W (sub v n fr len) id ∧ Sp W v n (fr + len) r
abbrev Rd (W : Int → Int → Prop) (v : Int) (l : List Int) : Prop := Sp W v (rl v) 0 l
def okl (l : List Int) : Prop := l.length ≤ 4 ∧ ∀ x ∈ l, 0 ≤ x ∧ x < 40
theorem Sp.len {W : Int → Int → Prop} {v n : Int} : ∀ {l : List Int} {fr : Int}, Sp W v n fr l → fr ≤ n → fr + l.length ≤ n
  | [], fr, h, z => by show fr + (0 : Int) ≤ n; omega
  | id :: r, fr, h, z => by
    obtain ⟨len, h1, h2, _, h4⟩ := h
    have := Sp.len h4 h2
    show fr + ((r.length + 1 : Nat) : Int) ≤ n
    omega
theorem Sp.mem {W : Int → Int → Prop} {v n : Int} (hW : ∀ c id, W c id → 0 ≤ id ∧ id < 40) : ∀ {l : List Int} {fr : Int}, Sp W v n fr l → ∀ x ∈ l, 0 ≤ x ∧ x < 40
  | [], _, _, x, hx => absurd hx (List.not_mem_nil)
  | id :: r, fr, h, x, hx => by
    obtain ⟨len, _, _, h3, h4⟩ := h
    rcases List.mem_cons.mp hx with e | e
    · rw [e]; exact hW _ _ h3
    · exact Sp.mem hW h4 x e
theorem Rd.ok {W : Int → Int → Prop} {v : Int} {l : List Int} (hW : ∀ c id, W c id → 0 ≤ id ∧ id < 40) (R : Rd W v l) : okl l := by
  have b := rl_in v
  have := Sp.len R b.1
  exact ⟨by omega, Sp.mem hW R⟩
theorem Rd.ne {W : Int → Int → Prop} {v : Int} {l : List Int} (p : 0 < rl v) (R : Rd W v l) : l ≠ [] := by
  intro e; subst e
  have R : rl v ≤ 0 := R
  omega
/-- a row of names as a number of the class: the last name first -/
def en : List Int → Int
  | [] => 0
  | x :: r => en r * 64 + (x + 1)
def enc (l : List Int) : Int := en l.reverse
theorem en_in : ∀ {p : List Int}, (∀ x ∈ p, 0 ≤ x ∧ x < 40) → 0 ≤ en p ∧ en p < 64 ^ p.length
  | [], _ => by show (0 : Int) ≤ 0 ∧ (0 : Int) < 64 ^ 0; decide
  | x :: r, h => by
    have a := en_in (p := r) (fun y hy => h y (List.mem_cons_of_mem _ hy))
    have b := h x (List.mem_cons_self)
    show 0 ≤ en r * 64 + (x + 1) ∧ en r * 64 + (x + 1) < 64 ^ (r.length + 1)
    rw [Int.pow_succ]
    omega
theorem en_inj : ∀ {p p' : List Int}, (∀ x ∈ p, 0 ≤ x ∧ x < 40) → (∀ x ∈ p', 0 ≤ x ∧ x < 40) → en p = en p' → p = p'
  | [], [], _, _, _ => rfl
  | [], x :: r, _, h, e => by
    exfalso
    have a := en_in (p := r) (fun y hy => h y (List.mem_cons_of_mem _ hy))
    have b := h x (List.mem_cons_self)
    have e : 0 = en r * 64 + (x + 1) := e
    omega
  | x :: r, [], h, _, e => by
    exfalso
    have a := en_in (p := r) (fun y hy => h y (List.mem_cons_of_mem _ hy))
    have b := h x (List.mem_cons_self)
    have e : en r * 64 + (x + 1) = 0 := e
    omega
  | x :: r, y :: s, h, h', e => by
    have b := h x (List.mem_cons_self)
    have b' := h' y (List.mem_cons_self)
    have e : en r * 64 + (x + 1) = en s * 64 + (y + 1) := e
    have e1 : x = y := by omega
    have e2 : en r = en s := by omega
    rw [e1, en_inj (fun z hz => h z (List.mem_cons_of_mem _ hz)) (fun z hz => h' z (List.mem_cons_of_mem _ hz)) e2]
theorem enc_inj {l l' : List Int} (a : okl l) (b : okl l') (e : enc l = enc l') : l = l' := by
  have := en_inj (p := l.reverse) (p' := l'.reverse) (fun x hx => a.2 x (List.mem_reverse.mp hx)) (fun x hx => b.2 x (List.mem_reverse.mp hx)) e
  rw [← List.reverse_reverse l, this, List.reverse_reverse]
theorem pow64 {n : Nat} (h : n ≤ 4) : (64 : Int) ^ n ≤ 16777216 := by
  rcases (show n = 0 ∨ n = 1 ∨ n = 2 ∨ n = 3 ∨ n = 4 by omega) with rfl | rfl | rfl | rfl | rfl <;> decide
theorem enc_in {l : List Int} (a : okl l) : 0 ≤ enc l ∧ enc l < 16777216 := by
  have := en_in (p := l.reverse) (fun x hx => a.2 x (List.mem_reverse.mp hx))
  have h := pow64 (n := l.reverse.length) (by rw [List.length_reverse]; exact a.1)
  unfold enc
  omega
theorem enc_pos {l : List Int} (a : okl l) (h : l ≠ []) : 0 < enc l := by
  have z := enc_in a
  apply Decidable.byContradiction
  intro y
  have e : enc l = enc [] := by show enc l = 0; omega
  exact h (enc_inj a ⟨by decide, fun x hx => absurd hx (List.not_mem_nil)⟩ e)
/-! lists of rows that grow, up to lim rows -/
def Ext (L L' : List (List Int)) (lim : Nat) (Q : List Int → Prop) : Prop :=
  L'.Nodup ∧ L'.length ≤ lim ∧ L.length ≤ L'.length ∧ (∀ l ∈ L, l ∈ L') ∧ (∀ l ∈ L', l ∈ L ∨ Q l) ∧ (L'.length = lim ∨ ∀ l, Q l → l ∈ L')
theorem Ext.refl {L : List (List Int)} {lim : Nat} (h : L.Nodup) (h' : L.length ≤ lim) : Ext L L lim (fun _ => False) :=
  ⟨h, h', Nat.le_refl _, fun _ h => h, fun _ h => Or.inl h, Or.inr (fun _ h => h.elim)⟩
theorem Ext.trans {L L1 L2 : List (List Int)} {lim : Nat} {Q1 Q2 : List Int → Prop} (a : Ext L L1 lim Q1) (b : Ext L1 L2 lim Q2) : Ext L L2 lim (fun l => Q1 l ∨ Q2 l) := by
  obtain ⟨a1, a2, a3, a4, a5, a6⟩ := a
  obtain ⟨b1, b2, b3, b4, b5, b6⟩ := b
  refine ⟨b1, b2, by omega, fun l hl => b4 l (a4 l hl), fun l hl => ?_, ?_⟩
  · rcases b5 l hl with h | h
    · rcases a5 l h with g | g
      · exact Or.inl g
      · exact Or.inr (Or.inl g)
    · exact Or.inr (Or.inr h)
  · rcases b6 with h | h
    · exact Or.inl h
    · rcases a6 with g | g
      · exact Or.inl (by omega)
      · exact Or.inr (fun l hl => hl.elim (fun x => b4 l (g l x)) (fun x => h l x))
theorem Ext.imp {L L' : List (List Int)} {lim : Nat} {Q Q' : List Int → Prop} (a : Ext L L' lim Q) (e : ∀ l, Q l ↔ Q' l) : Ext L L' lim Q' := by
  obtain ⟨a1, a2, a3, a4, a5, a6⟩ := a
  exact ⟨a1, a2, a3, a4, fun l hl => (a5 l hl).imp id (e l).1, a6.imp id (fun h l hl => h l ((e l).2 hl))⟩
theorem Ext.full {L L' : List (List Int)} {lim : Nat} {Q Q' : List Int → Prop} (a : Ext L L' lim Q) (f : lim ≤ L'.length) (e : ∀ l, Q l → Q' l) : Ext L L' lim Q' := by
  obtain ⟨a1, a2, a3, a4, a5, a6⟩ := a
  exact ⟨a1, a2, a3, a4, fun l hl => (a5 l hl).imp id (e l), Or.inl (by omega)⟩
theorem Ext.one {L : List (List Int)} {lim : Nat} {l : List Int} (h : L.Nodup) (h' : L.length < lim) (n : l ∉ L) : Ext L (L ++ [l]) lim (fun x => x = l) := by
  refine ⟨?_, by rw [List.length_append]; show L.length + 1 ≤ lim; omega, by rw [List.length_append]; omega, fun x hx => List.mem_append_left _ hx, fun x hx => ?_, Or.inr (fun x hx => by rw [hx]; exact List.mem_append_right _ (List.mem_singleton.mpr rfl))⟩
  · rw [List.nodup_append]
    refine ⟨h, by simp, fun a ha b hb => ?_⟩
    rw [List.mem_singleton.mp hb]
    intro e; rw [e] at ha; exact n ha
  · rcases List.mem_append.mp hx with g | g
    · exact Or.inl g
    · exact Or.inr (List.mem_singleton.mp g)
theorem Ext.in {L : List (List Int)} {lim : Nat} {l : List Int} (h : L.Nodup) (h' : L.length ≤ lim) (n : l ∈ L) : Ext L L lim (fun x => x = l) :=
  ⟨h, h', Nat.le_refl _, fun _ h => h, fun _ h => Or.inl h, Or.inr (fun x e => by rw [e]; exact n)⟩
theorem nodup_le {L M : List (List Int)} (h : L.Nodup) (s : ∀ l ∈ L, l ∈ M) : L.length ≤ M.length := by
  induction L generalizing M with
  | nil => exact Nat.zero_le _
  | cons a r ih =>
    obtain ⟨h1, h2⟩ := List.nodup_cons.mp h
    have am : a ∈ M := s a (List.mem_cons_self)
    have := ih (M := M.erase a) h2 (fun l hl => by
      refine (List.mem_erase_of_ne ?_).mpr (s l (List.mem_cons_of_mem _ hl))
      intro e; rw [e] at hl; exact h1 hl)
    rw [List.length_erase_of_mem am] at this
    have := List.length_pos_of_mem am
    show r.length + 1 ≤ M.length
    omega
/-- both sides find as many -/
theorem Ext.same {L M : List (List Int)} {lim : Nat} {Q : List Int → Prop} (a : Ext [] L lim Q) (b : Ext [] M lim Q) : L.length = M.length := by
  obtain ⟨a1, a2, a3, a4, a5, a6⟩ := a
  obtain ⟨b1, b2, b3, b4, b5, b6⟩ := b
  have aq : ∀ l ∈ L, Q l := fun l hl => (a5 l hl).elim (fun z => absurd z (List.not_mem_nil)) id
  have bq : ∀ l ∈ M, Q l := fun l hl => (b5 l hl).elim (fun z => absurd z (List.not_mem_nil)) id
  rcases a6 with a6 | a6 <;> rcases b6 with b6 | b6
  · omega
  · have := nodup_le a1 (fun l hl => b6 l (aq l hl)); omega
  · have := nodup_le b1 (fun l hl => a6 l (bq l hl)); omega
  · have := nodup_le a1 (fun l hl => b6 l (aq l hl))
    have := nodup_le b1 (fun l hl => a6 l (bq l hl))
    omega
/-- one way alone, and it is l -/
def only (Q : List Int → Prop) (l : List Int) : Prop := ∀ x, Q x ↔ x = l
theorem only_same {Q : List Int → Prop} {l l' : List Int} (a : only Q l) (b : only Q l') : l = l' := (b l).1 ((a l).2 rfl)
theorem Ext.one_only {l : List Int} {Q : List Int → Prop} (a : Ext [] [l] 2 Q) : only Q l := by
  obtain ⟨a1, a2, a3, a4, a5, a6⟩ := a
  have q : Q l := (a5 l (List.mem_singleton.mpr rfl)).elim (fun z => absurd z (List.not_mem_nil)) id
  rcases a6 with a6 | a6
  · exact absurd (show 1 = 2 from a6) (by decide)
  · exact fun x => ⟨fun hx => List.mem_singleton.mp (a6 x hx), fun e => by rw [e]; exact q⟩
theorem Ext.not_only {L : List (List Int)} {Q : List Int → Prop} (a : Ext [] L 2 Q) (h : L.length ≠ 1) : ¬ ∃ l, only Q l := by
  rintro ⟨l, o⟩
  obtain ⟨a1, a2, a3, a4, a5, a6⟩ := a
  have aq : ∀ l ∈ L, Q l := fun l hl => (a5 l hl).elim (fun z => absurd z (List.not_mem_nil)) id
  rcases (show L.length = 0 ∨ L.length = 2 by omega) with z | z
  · rcases a6 with a6 | a6
    · omega
    · have := List.length_pos_of_mem (a6 l ((o l).2 rfl)); omega
  · have := nodup_le (M := [l]) a1 (fun x hx => List.mem_singleton.mpr ((o x).1 (aq x hx)))
    have : [l].length = 1 := rfl
    omega
theorem len_one {L : List (List Int)} (h : L.length = 1) : ∃ l, L = [l] := by
  match L, h with
  | [l], _ => exact ⟨l, rfl⟩
/-! parts of rows of letters -/
theorem sub_in {v n fr len : Int} (l0 : 1 ≤ len) (l4 : len ≤ 4) : 0 ≤ sub v n fr len ∧ sub v n fr len < 1048576 := by
  unfold sub
  rcases (show len = 1 ∨ len = 2 ∨ len = 3 ∨ len = 4 by omega) with rfl | rfl | rfl | rfl
  · show 0 ≤ _ % (32 : Int) ∧ _ % (32 : Int) < 1048576; omega
  · show 0 ≤ _ % (1024 : Int) ∧ _ % (1024 : Int) < 1048576; omega
  · show 0 ≤ _ % (32768 : Int) ∧ _ % (32768 : Int) < 1048576; omega
  · show 0 ≤ _ % (1048576 : Int) ∧ _ % (1048576 : Int) < 1048576; omega
theorem p5 (m : Int) (h0 : 0 ≤ m) (h4 : m ≤ 4) : (2 : Int) ^ (5 * m).toNat = if m = 0 then 1 else if m = 1 then 32 else if m = 2 then 1024 else if m = 3 then 32768 else 1048576 := by
  rcases (show m = 0 ∨ m = 1 ∨ m = 2 ∨ m = 3 ∨ m = 4 by omega) with rfl | rfl | rfl | rfl | rfl <;> rfl
/-- the parts of a row of letters have as many letters as they should -/
theorem rl_sub {v fr len : Int} (g : letters v) (f0 : 0 ≤ fr) (l0 : 1 ≤ len) (h : fr + len ≤ rl v) : rl (sub v (rl v) fr len) = len := by
  have b := rl_in v
  have s1 := sub_in (v := v) (n := rl v) (fr := fr) l0 (by omega)
  obtain ⟨gp, g⟩ := g
  have gk := g fr f0 (by omega)
  have key : (len = 1 ∧ 1 ≤ sub v (rl v) fr len ∧ sub v (rl v) fr len < 32) ∨ (len = 2 ∧ 32 ≤ sub v (rl v) fr len ∧ sub v (rl v) fr len < 1024) ∨ (len = 3 ∧ 1024 ≤ sub v (rl v) fr len ∧ sub v (rl v) fr len < 32768) ∨ (len = 4 ∧ 32768 ≤ sub v (rl v) fr len ∧ sub v (rl v) fr len < 1048576) := by
    unfold sg at gk
    rcases (show len = 1 ∨ len = 2 ∨ len = 3 ∨ len = 4 by omega) with rfl | rfl | rfl | rfl
    · rw [show rl v - 1 - fr = rl v - fr - 1 by omega] at gk
      refine Or.inl ⟨rfl, ?_⟩
      show 1 ≤ _ % (32 : Int) ∧ _ % (32 : Int) < 32
      omega
    · rw [show 5 * (rl v - 1 - fr) = 5 * ((rl v - fr - 2) + 1) by omega, ← sh5 (by omega) (by omega)] at gk
      refine Or.inr (Or.inl ⟨rfl, ?_⟩)
      show 32 ≤ _ % (1024 : Int) ∧ _ % (1024 : Int) < 1024
      omega
    · rw [show 5 * (rl v - 1 - fr) = 5 * ((rl v - fr - 3) + 1 + 1) by omega, ← sh5 (by omega) (by omega), ← sh5 (by omega) (by omega)] at gk
      refine Or.inr (Or.inr (Or.inl ⟨rfl, ?_⟩))
      show 1024 ≤ _ % (32768 : Int) ∧ _ % (32768 : Int) < 32768
      omega
    · rw [show 5 * (rl v - 1 - fr) = 5 * ((rl v - fr - 4) + 1 + 1 + 1) by omega, ← sh5 (by omega) (by omega), ← sh5 (by omega) (by omega), ← sh5 (by omega) (by omega)] at gk
      refine Or.inr (Or.inr (Or.inr ⟨rfl, ?_⟩))
      show 32768 ≤ _ % (1048576 : Int) ∧ _ % (1048576 : Int) < 1048576
      omega
  generalize sub v (rl v) fr len = x at key
  unfold rl
  (repeat' split) <;> omega

