/-! HOISTS that are found are hoists -/
theorem rp_bit (u v n k : Int) : ∀ (c : Nat) (r : Int), rp u v n k c r ≠ 0 → bit u (rp u v n k c r) = 0
  | 0, _, z => absurd rfl z
  | c + 1, r, z => by
    unfold rp at z ⊢
    by_cases y : bit u (26 + r) = 0 ∧ sg v n (r - 1) = sg v n k
    · rw [if_pos y]; exact y.1
    · rw [if_neg y] at z ⊢; exact rp_bit u v n k c (r + 1) z
theorem hs_bit {u v n k L R : Int} (z : hs u v n k L R ≠ 0) : bit u (hs u v n k L R) = 0 := by
  unfold hs at z ⊢
  by_cases y : bit u (sg v n k) = 0 ∧ bit L (sg v n k - 1) = 0
  · rw [if_pos y]; exact y.1
  · rw [if_neg y] at z ⊢; exact rp_bit _ _ _ _ _ _ z
theorem hs_rep {u v n k L R : Int} (k0 : 0 ≤ k) (g : sg v n k ≤ 26) : hs u v n k L R - 26 ≤ k := by
  have a := rp_in u v n k (min R k).toNat 1 (Int.le_refl 1)
  unfold hs
  split <;> omega
theorem hu_bit {v n L R : Int} (g : ∀ k : Nat, (k : Int) < n → 1 ≤ sg v n k ∧ sg v n k ≤ 26) (R3 : R ≤ 3) : ∀ k : Nat, (k : Int) ≤ n → ∀ j : Nat, j < k → bit (hu v n L R k) (hs (hu v n L R j) v n j L R) = 1
  | 0, _, j, hj => by omega
  | k + 1, hk, j, hj => by
    have a := hu_in (L := L) g R3 k (by omega)
    have b := g k (by omega)
    have c := hs_in (u := hu v n L R k) (L := L) ⟨by omega, b.2⟩ R3
    have bj := g j (by omega)
    have cj := hs_in (u := hu v n L R j) (L := L) ⟨by omega, bj.2⟩ R3
    rw [show hu v n L R (k + 1) = or32 (hu v n L R k) (w32 (1 * 2 ^ (hs (hu v n L R k) v n k L R).toNat)) from rfl, or_bit a.1 a.2 c.1 c.2 cj.1]
    by_cases y : hs (hu v n L R j) v n j L R = hs (hu v n L R k) v n k L R
    · rw [if_pos y]
    · rw [if_neg y]
      by_cases w : j = k
      · exact absurd (by rw [w]) y
      · exact hu_bit g R3 k (by omega) j (by omega)
theorem HoistR.ho {v L R r : Int} (g : letters v) (R3 : R ≤ 3) (a : HoistR v L R r) (r1 : r ≠ -1) : isHo r ∧ rl r = rl v := by
  rcases a with ⟨a, e⟩ | ⟨_, e⟩
  · have b := rl_in v
    have gn : ∀ k : Nat, (k : Int) < rl v → 1 ≤ sg v (rl v) k ∧ sg v (rl v) k ≤ 26 := fun k hk => g.2 k (by omega) hk
    have ex : ∀ m : Nat, hh v (rl v) L R m = nu (fun k => hs (hu v (rl v) L R k) v (rl v) k L R) m := by
      intro m
      induction m with
      | zero => rfl
      | succ m ih => show hh v (rl v) L R m * 32 + _ = _; rw [ih]; rfl
    have hin : ∀ i : Nat, i < (rl v).toNat → 1 ≤ hs (hu v (rl v) L R i) v (rl v) i L R ∧ hs (hu v (rl v) L R i) v (rl v) i L R ≤ 29 := fun i hi => by
      have y := gn i (by omega)
      have z := hs_in (u := hu v (rl v) L R i) (L := L) ⟨by omega, y.2⟩ R3
      have w := a i (by omega)
      omega
    rw [ex] at e
    have gp := g.1
    have r2 : rl r = rl v := by rw [e, rl_nu (by omega) (by omega) hin, Int.toNat_of_nonneg b.1]
    have sk : ∀ k : Int, 0 ≤ k → k < rl v → sg r (rl r) k = hs (hu v (rl v) L R k.toNat) v (rl v) k L R := fun k k0 k1 => by
      have y := sg_nu (rl v).toNat (by omega) hin k.toNat (by omega)
      rw [Int.toNat_of_nonneg b.1, Int.toNat_of_nonneg k0] at y
      rw [r2, e]; exact y
    refine ⟨⟨by omega, fun k k0 k1 => ?_⟩, r2⟩
    rw [r2] at k1
    have h1 := hin k.toNat (by omega)
    rw [Int.toNat_of_nonneg k0] at h1
    have y := gn k.toNat (by omega)
    rw [Int.toNat_of_nonneg k0] at y
    have ak := a k.toNat (by omega)
    rw [Int.toNat_of_nonneg k0] at ak
    unfold good
    rw [sk k k0 k1]
    refine ⟨h1.1, h1.2, hs_rep k0 y.2, fun j j0 j1 z => ?_⟩
    rw [sk j j0 (by omega)] at z
    have w1 := hu_bit (L := L) gn R3 k.toNat (by omega) j.toNat (by omega)
    have w2 := hs_bit ak
    rw [Int.toNat_of_nonneg j0, z] at w1
    omega
  · exact absurd e r1
theorem hoF_R (v L R : Int) : HoistR v L R (hoF v L R) := by
  by_cases a : ∀ k : Nat, (k : Int) < rl v → hs (hu v (rl v) L R k) v (rl v) k L R ≠ 0
  · exact Or.inl ⟨a, by unfold hoF; rw [if_pos a]⟩
  · refine Or.inr ⟨?_, by unfold hoF; rw [if_neg a]⟩
    apply Classical.byContradiction
    intro n
    exact a (fun k hk z => n ⟨k, hk, z⟩)
theorem hoF_ho {v L R : Int} (g : letters v) (R3 : R ≤ 3) (n : hoF v L R ≠ -1) : isHo (hoF v L R) := ((hoF_R v L R).ho g R3 n).1
/-- all hoists of a way are hoists -/
theorem pth_ho {h : PH} {s : Int} {pln : Int → Prop} {B : Int → Q4t} {n : Int} (R3 : gv h 87 s ≤ 3) (ok : ∀ i, 0 ≤ i → i ≤ n → bOk (hstF h s) pln n B i) : ∀ (f : Nat) (i : Int), 0 ≤ i → i ≤ n → (B i).1 < 1000 → ∀ w ∈ pth B n f i, isHo w
  | 0, i, i0, i1, b, w, hw => absurd hw List.not_mem_nil
  | f + 1, i, i0, i1, b, w, hw => by
    by_cases z : i < n
    · rcases ok i i0 i1 with y | ⟨y1, y2, y3⟩
      · omega
      · obtain ⟨⟨z1, z2⟩, z3, z4, row, g, pl, e, ne⟩ := y3 z
        rw [show pth B n (f + 1) i = (B i).2.2.1 :: pth B n f (B i).2.2.2 from if_pos z] at hw
        rcases List.mem_cons.mp hw with y | y
        · rw [y, e]; exact hoF_ho g R3 ne
        · exact pth_ho R3 ok f _ (by omega) z2 z3 w y
    · rw [pth_end (by omega)] at hw; exact absurd hw List.not_mem_nil

