/-! ALL THAT IS ALIKE; at the start -/
def Inv (h : PH) : Prop := FI h ∧ AI h ∧ MI h ∧ SentI h ∧ LineI h ∧ ChI h ∧ TI h ∧ WrdI h ∧ gv h 11 6 = gv h 66 7 ∧ gv h 11 7 = gv h 66 8
theorem cntA_zero {h : PH} {a f : Int} (z : ∀ j, 0 ≤ j → gv h a j = 0) (f0 : 0 ≤ f) : ∀ n : Nat, cntA h a f n = 0
  | 0 => rfl
  | n + 1 => by
    unfold cntA
    rw [cntA_zero z f0 n, z _ (by omega)]; rfl
theorem hz_zero {h : PH} (z : ∀ j, 0 ≤ j → gv h 89 j = 0) : ∀ n : Nat, hz h n = 0
  | 0 => rfl
  | n + 1 => by
    unfold hz
    rw [if_pos (z _ (Int.natCast_nonneg _)), hz_zero z n]
theorem wd_of {R : HR2} {h0 h : PH} (P : Rp h0 R h) {a : Int} {l : List Int} (a2 : 2 ≤ a) (c : (iniW a l).all (fun e => decide (lkS R.2 e.1 e.2.1 = e.2.2)) = true) (t : tg h a = 104) (n : ln h a = l.length) (l6 : 1 ≤ l.length ∧ l.length ≤ 6) (al : ∀ j, j < l.length → isLet (chr l j)) : WdA h a l.length (chr l) := by
  refine ⟨t, n, l6, fun j hj => ⟨?_, al j hj⟩⟩
  rw [P.2.2.1 a j a2 (Int.natCast_nonneg _)]
  have z := (List.all_eq_true.1 c) (a, (j : Int), l.getD j 0) (List.mem_map.2 ⟨j, List.mem_range.2 hj, rfl⟩)
  exact of_decide_eq_true z
theorem start_inv {L : Nat} {xs : Nat → Int32} {R : HR2} {h : PH} (P : Rp (h0 L xs) R h) (c : chkS R = true) : Shape h ∧ Inv h := by
  unfold chkS at c
  simp only [Bool.and_eq_true] at c
  obtain ⟨⟨⟨⟨⟨⟨c1, c2⟩, c3⟩, c4⟩, c5⟩, c6⟩, c7⟩ := c
  have c1 := of_decide_eq_true c1
  have gz : ∀ a, a ∈ INIz → 2 ≤ a → ∀ j, 0 ≤ j → gv h a j = 0 := fun a ha a2 j j0 => by
    rw [P.2.2.1 a j a2 j0]
    exact noE_lk ((List.all_eq_true.1 c7) a ha) j
  have ge : ∀ a i v, (a, i, v) ∈ INIl → 2 ≤ a → 0 ≤ i → gv h a i = v := fun a i v hm a2 i0 => by
    rw [P.2.2.1 a i a2 i0]
    exact of_decide_eq_true ((List.all_eq_true.1 c4) _ hm)
  have g3 : ∀ a, a = 7 ∨ a = 87 → ∀ j, 0 ≤ j → j < 10 → gv h a j = 3 := fun a ha j j0 j1 => by
    rw [P.2.2.1 a j (by omega) j0]
    have hm : (a, j, (3 : Int)) ∈ ini3 7 ++ ini3 87 := by
      rcases ha with e | e
      · rw [e]; exact List.mem_append_left _ (List.mem_map.2 ⟨j.toNat, List.mem_range.2 (by omega), by rw [Int.toNat_of_nonneg j0]⟩)
      · rw [e]; exact List.mem_append_right _ (List.mem_map.2 ⟨j.toNat, List.mem_range.2 (by omega), by rw [Int.toNat_of_nonneg j0]⟩)
    exact of_decide_eq_true ((List.all_eq_true.1 c5) _ hm)
  have len : R.1.length = 126 := by rw [c1]; decide +kernel
  have S : Shape h := by
    refine ⟨?_, fun a a0 a1 => ?_, fun e he => ?_, fun s s0 s1 => ?_⟩
    · rw [P.1]; unfold nxR; omega
    · have hk : R.1[(a - 2).toNat]? = some (TGl.getD ((a - 2).toNat + 2) (-1), LNl.getD ((a - 2).toNat + 2) 0) := by
        rw [c1, List.getElem?_map, List.getElem?_range (by omega)]; rfl
      obtain ⟨x, y⟩ := P.2.1 _ _ hk
      rw [show 2 + (((a - 2).toNat : Nat) : Int) = a by omega] at x y
      rw [show (a - 2).toNat + 2 = a.toNat by omega] at x y
      exact ⟨x, y⟩
    · have z := of_decide_eq_true ((List.all_eq_true.1 c2) e he)
      have p2 : ∀ e ∈ FINl, 2 ≤ e.1 ∧ 0 ≤ e.2.1 := by decide +kernel
      rw [P.2.2.1 _ _ (p2 e he).1 (p2 e he).2]; exact z
    · rw [P.2.2.1 39 s (by decide) s0]
      have z := of_decide_eq_true ((List.all_eq_true.1 c3) s.toNat (List.mem_range.2 (by omega)))
      rw [Int.toNat_of_nonneg s0] at z
      exact z
  have z6 := gz 6 (by decide) (by decide)
  have z8 := gz 8 (by decide) (by decide)
  have z9 := gz 9 (by decide) (by decide)
  have z10 := gz 10 (by decide) (by decide)
  have z86 := gz 86 (by decide) (by decide)
  have z88 := gz 88 (by decide) (by decide)
  have z89 := gz 89 (by decide) (by decide)
  have z90 := gz 90 (by decide) (by decide)
  have z91 := gz 91 (by decide) (by decide)
  have z19 := gz 19 (by decide) (by decide)
  have z20 := gz 20 (by decide) (by decide)
  have z23 := gz 23 (by decide) (by decide)
  have f186 := ge 18 6 (-1) (by decide) (by decide) (by decide)
  have f46 := ge 66 46 (-1) (by decide) (by decide) (by decide)
  have f185 := ge 18 5 0 (by decide) (by decide) (by decide)
  have f40 := ge 66 40 0 (by decide) (by decide) (by decide)
  have f31 := ge 3 1 0 (by decide) (by decide) (by decide)
  have f661 := ge 66 1 0 (by decide) (by decide) (by decide)
  have f210 := ge 2 10 0 (by decide) (by decide) (by decide)
  have f59 := ge 66 59 0 (by decide) (by decide) (by decide)
  have f212 := ge 2 12 0 (by decide) (by decide) (by decide)
  have f68 := ge 66 68 0 (by decide) (by decide) (by decide)
  have f383 := ge 38 3 (-1) (by decide) (by decide) (by decide)
  have f3815 := ge 38 15 0 (by decide) (by decide) (by decide)
  have f70 := ge 66 70 0 (by decide) (by decide) (by decide)
  have f596 := ge 59 6 0 (by decide) (by decide) (by decide)
  have f87 := ge 66 87 0 (by decide) (by decide) (by decide)
  refine ⟨S, ?_, ?_, ?_, ?_, ?_, ?_, ?_, ?_, ?_, ?_⟩
  · refine ⟨fun s s0 s1 => ?_, fun s s0 s1 => ?_, fun s s0 s1 => ?_, fun i i0 i1 => ?_, fun f g f0 f1 g0 g1 => ?_, fun f f0 f1 => ?_, fun f f0 f1 => ?_, fun t ht => ?_, fun t ht => ?_⟩
    · rw [z6 s s0, z86 s s0]; decide
    · rw [g3 7 (Or.inl rfl) s s0 s1, g3 87 (Or.inr rfl) s s0 s1]; decide
    · rw [z8 s s0, z91 s s0]; decide
    · rw [z9 i i0, z88 i i0]; decide
    · rw [z88 _ (by omega), z88 _ (by omega)]
    · exact z88 _ (by omega)
    · rw [cntA_zero z88 f0]; decide
    · rw [z89 t (Int.natCast_nonneg _), z90 t (Int.natCast_nonneg _)]; decide
    · rw [z10 t (Int.natCast_nonneg _), z89 t (Int.natCast_nonneg _), hz_zero z89]; rfl
  · refine ⟨⟨by omega, by omega, by omega, by omega, by omega, by omega, z19 0 (by decide)⟩, fun k k0 k1 => by omega, fun k k0 k1 => ⟨z19 k (by omega), z20 k (by omega), z23 k (by omega)⟩⟩
  · exact ⟨by omega, by omega, fun i i0 i1 => by omega⟩
  · exact ⟨by omega, by omega, fun i i0 i1 => by omega⟩
  · exact Or.inl ⟨f383, f3815, f70⟩
  · exact ⟨by omega, by omega, fun i i0 i1 => by omega⟩
  · exact TI.empty f31 f661
  · unfold INIw at c6
    simp only [List.all_append, Bool.and_eq_true] at c6
    obtain ⟨⟨⟨⟨⟨⟨⟨⟨⟨⟨w1, w2⟩, w3⟩, w4⟩, w5⟩, w6⟩, w7⟩, w8⟩, w9⟩, w10⟩, w11⟩ := c6
    exact ⟨wd_of P (by decide) w1 (tg_68 S) (ln_68 S) (by decide) (by decide), wd_of P (by decide) w2 (tg_69 S) (ln_69 S) (by decide) (by decide), wd_of P (by decide) w3 (tg_70 S) (ln_70 S) (by decide) (by decide), wd_of P (by decide) w4 (tg_71 S) (ln_71 S) (by decide) (by decide), wd_of P (by decide) w5 (tg_72 S) (ln_72 S) (by decide) (by decide), wd_of P (by decide) w6 (tg_73 S) (ln_73 S) (by decide) (by decide), wd_of P (by decide) w7 (tg_74 S) (ln_74 S) (by decide) (by decide), wd_of P (by decide) w8 (tg_75 S) (ln_75 S) (by decide) (by decide), wd_of P (by decide) w9 (tg_76 S) (ln_76 S) (by decide) (by decide), wd_of P (by decide) w10 (tg_77 S) (ln_77 S) (by decide) (by decide), wd_of P (by decide) w11 (tg_78 S) (ln_78 S) (by decide) (by decide)⟩
  · rw [ge 11 6 0 (by decide) (by decide) (by decide), ge 66 7 0 (by decide) (by decide) (by decide)]
  · rw [ge 11 7 (-1) (by decide) (by decide) (by decide), ge 66 8 (-1) (by decide) (by decide) (by decide)]

