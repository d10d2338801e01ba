/-! THE CONSTRUCTORS: the machine run over lists -/
abbrev HR2 := List (Int × Int) × List (Int × Int × Int)
abbrev XR := Option (Option PV × HR2)
def lkS : List (Int × Int × Int) → Int → Int → Int
  | [], _, _ => 0
  | e :: r, b, j => if e.1 = b ∧ e.2.1 = j then e.2.2 else lkS r b j
def tgR (R : HR2) (a : Int) : Int := if 2 ≤ a then (R.1.getD (a - 2).toNat (-7, 0)).1 else -7
def lnR (R : HR2) (a : Int) : Int := (R.1.getD (a - 2).toNat (-7, 0)).2
def nxR (R : HR2) : Int := 2 + R.1.length
def stR (R : HR2) (a i v : Int) : HR2 := (R.1, (a, i, v) :: R.2)
def alR (R : HR2) (t n : Int) : HR2 := (R.1 ++ [(t, n)], R.2)
def rows2 (a : Int) : Nat → List (Int × Int × Int)
  | 0 => []
  | k + 1 => (a, (k : Int), a + 1 + k) :: rows2 a k
def al2R (R : HR2) (n k : Nat) : HR2 := (R.1 ++ (106, (n : Int)) :: List.replicate n (100, (k : Int)), rows2 (nxR R) n ++ R.2)
/-- the lists tell the heap -/
def Rp (h0 : PH) (R : HR2) (h : PH) : Prop := nx h = nxR R ∧ (∀ (k : Nat) e, R.1[k]? = some e → tg h (2 + k) = e.1 ∧ ln h (2 + k) = e.2) ∧ (∀ b j, 2 ≤ b → 0 ≤ j → gv h b j = lkS R.2 b j) ∧ (∀ b j, nxR R ≤ b → lkS R.2 b j = 0) ∧ tg h 1 = tg h0 1 ∧ ln h 1 = ln h0 1 ∧ ∀ j, gv h 1 j = gv h0 1 j
theorem rp_tg {h0 h : PH} {R : HR2} (P : Rp h0 R h) {a t : Int} (e : tgR R a = t) (t0 : 0 ≤ t) : tg h a = t ∧ 2 ≤ a ∧ a < nxR R ∧ ln h a = lnR R a := by
  unfold tgR at e
  by_cases z : 2 ≤ a
  · rw [if_pos z, List.getD_eq_getElem?_getD] at e
    cases hg : R.1[(a - 2).toNat]? with
    | none => rw [hg] at e; have e : (-7 : Int) = t := e; omega
    | some v =>
      rw [hg] at e
      have e : v.1 = t := e
      have lt := (List.getElem?_eq_some_iff.1 hg).1
      obtain ⟨x, y⟩ := P.2.1 _ _ hg
      rw [show 2 + (((a - 2).toNat : Nat) : Int) = a by omega] at x y
      refine ⟨x.trans e, z, by unfold nxR; omega, ?_⟩
      rw [y]
      unfold lnR
      rw [List.getD_eq_getElem?_getD, hg]; rfl
  · rw [if_neg z] at e; omega
theorem rp_st {h0 h : PH} {R : HR2} (P : Rp h0 R h) {a i v : Int} (a2 : 2 ≤ a) (an : a < nxR R) : Rp h0 (stR R a i v) (sv h a i v) := by
  obtain ⟨p1, p2, p3, p4, p5, p6, p7⟩ := P
  refine ⟨p1, p2, fun b j b2 j0 => ?_, fun b j hb => ?_, p5, p6, fun j => by rw [sv_ne (by omega)]; exact p7 j⟩
  · show _ = if a = b ∧ i = j then v else lkS R.2 b j
    by_cases z : a = b ∧ i = j
    · rw [if_pos z, z.1, z.2, sv_eq]
    · rw [if_neg z, gv_sv, if_neg (fun y => z ⟨y.1.symm, y.2.symm⟩)]; exact p3 b j b2 j0
  · have hb : nxR R ≤ b := hb
    show (if a = b ∧ i = j then v else lkS R.2 b j) = 0
    rw [if_neg (fun y => by omega)]; exact p4 b j hb
theorem rp_al {h0 h : PH} {R : HR2} (P : Rp h0 R h) (t n : Int) : Rp h0 (alR R t n) (al h t n) := by
  obtain ⟨p1, p2, p3, p4, p5, p6, p7⟩ := P
  have n2 : 2 ≤ nxR R := by unfold nxR; omega
  refine ⟨?_, fun k e he => ?_, fun b j b2 j0 => ?_, fun b j hb => ?_, ?_, ?_, fun j => ?_⟩
  · show nx h + 1 = 2 + ((R.1 ++ [(t, n)]).length : Int)
    rw [List.length_append, p1]
    show 2 + (R.1.length : Int) + 1 = 2 + ((R.1.length + 1 : Nat) : Int)
    omega
  · show (if 2 + (k : Int) = nx h then t else tg h (2 + k)) = e.1 ∧ (if 2 + (k : Int) = nx h then n else ln h (2 + k)) = e.2
    have he : (R.1 ++ [(t, n)])[k]? = some e := he
    by_cases y : k < R.1.length
    · rw [List.getElem?_append_left y] at he
      unfold nxR at p1
      rw [if_neg (by omega), if_neg (by omega)]; exact p2 k e he
    · rw [List.getElem?_append_right (by omega)] at he
      have y0 : k = R.1.length := by
        apply Decidable.byContradiction
        intro y0
        rw [List.getElem?_eq_none (by show 1 ≤ k - R.1.length; omega)] at he
        cases he
      rw [y0, Nat.sub_self] at he
      have he : some (t, n) = some e := he
      cases he
      unfold nxR at p1
      rw [if_pos (by omega), if_pos (by omega)]; exact ⟨rfl, rfl⟩
  · show (if b = nx h then (0 : Int) else gv h b j) = lkS R.2 b j
    by_cases z : b = nx h
    · rw [if_pos z, p4 b j (by omega)]
    · rw [if_neg z]; exact p3 b j b2 j0
  · have hb : 2 + ((R.1 ++ [(t, n)]).length : Int) ≤ b := hb
    rw [List.length_append] at hb
    have hb : 2 + ((R.1.length + 1 : Nat) : Int) ≤ b := hb
    exact p4 b j (by unfold nxR; omega)
  · show (if (1 : Int) = nx h then t else tg h 1) = tg h0 1
    rw [if_neg (by omega)]; exact p5
  · show (if (1 : Int) = nx h then n else ln h 1) = ln h0 1
    rw [if_neg (by omega)]; exact p6
  · show (if (1 : Int) = nx h then (0 : Int) else gv h 1 j) = gv h0 1 j
    rw [if_neg (by omega)]; exact p7 j
theorem lk_rows2 (a : Int) (S : List (Int × Int × Int)) (b j : Int) : ∀ n : Nat, lkS (rows2 a n ++ S) b j = if b = a ∧ 0 ≤ j ∧ j < n then a + 1 + j else lkS S b j
  | 0 => by
    rw [if_neg (by omega)]; rfl
  | n + 1 => by
    show (if a = b ∧ (n : Int) = j then a + 1 + (n : Int) else lkS (rows2 a n ++ S) b j) = _
    rw [lk_rows2 a S b j n]
    by_cases z : a = b ∧ (n : Int) = j
    · rw [if_pos z, if_pos (by omega)]; omega
    · rw [if_neg z]
      by_cases y : b = a ∧ 0 ≤ j ∧ j < n
      · rw [if_pos y, if_pos (by omega)]
      · rw [if_neg y, if_neg (by omega)]
theorem rp_al2 {h0 h : PH} {R : HR2} (P : Rp h0 R h) (n k : Nat) : Rp h0 (al2R R n k) (al2 h n k) := by
  obtain ⟨p1, p2, p3, p4, p5, p6, p7⟩ := P
  have n2 : 2 ≤ nxR R := by unfold nxR; omega
  have ll : (R.1 ++ (106, (n : Int)) :: List.replicate n (100, (k : Int))).length = R.1.length + (n + 1) := by
    rw [List.length_append, List.length_cons, List.length_replicate]
  refine ⟨?_, fun i e he => ?_, fun b j b2 j0 => ?_, fun b j hb => ?_, ?_, ?_, fun j => ?_⟩
  · show nx h + 1 + (n : Int) = 2 + ((R.1 ++ (106, (n : Int)) :: List.replicate n (100, (k : Int))).length : Int)
    rw [ll, p1]; unfold nxR; omega
  · show (if 2 + (i : Int) = nx h then (106 : Int) else if nx h < 2 + (i : Int) ∧ 2 + (i : Int) ≤ nx h + n then 100 else tg h (2 + i)) = e.1 ∧ (if 2 + (i : Int) = nx h then (n : Int) else if nx h < 2 + (i : Int) ∧ 2 + (i : Int) ≤ nx h + n then (k : Int) else ln h (2 + i)) = e.2
    have he : (R.1 ++ (106, (n : Int)) :: List.replicate n (100, (k : Int)))[i]? = some e := he
    have lt := (List.getElem?_eq_some_iff.1 he).1
    rw [ll] at lt
    unfold nxR at p1
    by_cases y : i < R.1.length
    · rw [List.getElem?_append_left y] at he
      rw [if_neg (by omega), if_neg (by omega), if_neg (by omega), if_neg (by omega)]; exact p2 i e he
    · rw [List.getElem?_append_right (by omega)] at he
      cases hm : i - R.1.length with
      | zero =>
        rw [hm] at he
        have he : some ((106 : Int), (n : Int)) = some e := he
        cases he
        rw [if_pos (by omega), if_pos (by omega)]; exact ⟨rfl, rfl⟩
      | succ m =>
        rw [hm] at he
        have he : (List.replicate n ((100 : Int), (k : Int)))[m]? = some e := he
        rw [List.getElem?_replicate] at he
        by_cases mn : m < n
        · rw [if_pos mn] at he
          cases he
          rw [if_neg (by omega), if_pos (by omega), if_neg (by omega), if_pos (by omega)]; exact ⟨rfl, rfl⟩
        · rw [if_neg mn] at he; cases he
  · show (if b = nx h then (if j < n then nx h + 1 + j else 0) else if nx h < b ∧ b ≤ nx h + n then (0 : Int) else gv h b j) = lkS (rows2 (nxR R) n ++ R.2) b j
    rw [lk_rows2, p1]
    by_cases z : b = nxR R
    · rw [if_pos z]
      by_cases y : j < (n : Int)
      · rw [if_pos y, if_pos ⟨z, j0, y⟩]
      · rw [if_neg y, if_neg (fun w => y w.2.2), p4 b j (by omega)]
    · rw [if_neg z]
      by_cases y : nxR R < b ∧ b ≤ nxR R + n
      · rw [if_pos y, if_neg (fun w => z w.1), p4 b j (by omega)]
      · rw [if_neg y, if_neg (fun w => z w.1)]; exact p3 b j b2 j0
  · have hb : 2 + ((R.1 ++ (106, (n : Int)) :: List.replicate n (100, (k : Int))).length : Int) ≤ b := hb
    rw [ll] at hb
    show lkS (rows2 (nxR R) n ++ R.2) b j = 0
    unfold nxR at p4 ⊢
    rw [lk_rows2, if_neg (by omega)]; exact p4 b j (by omega)
  · show (if (1 : Int) = nx h then (106 : Int) else if nx h < 1 ∧ 1 ≤ nx h + n then 100 else tg h 1) = tg h0 1
    rw [if_neg (by omega), if_neg (by omega)]; exact p5
  · show (if (1 : Int) = nx h then (n : Int) else if nx h < 1 ∧ 1 ≤ nx h + n then (k : Int) else ln h 1) = ln h0 1
    rw [if_neg (by omega), if_neg (by omega)]; exact p6
  · show (if (1 : Int) = nx h then (if j < n then nx h + 1 + j else 0) else if nx h < 1 ∧ 1 ≤ nx h + n then (0 : Int) else gv h 1 j) = gv h0 1 j
    rw [if_neg (by omega), if_neg (by omega)]; exact p7 j

