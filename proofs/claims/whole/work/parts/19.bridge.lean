/-! THE LAW, OUT OF THE PURE MACHINE: what is left is the pure run of its body -/
def h0 (L : Nat) (xs : Nat → Int32) : PH := (fun a i => if a = 1 then (xs i.toNat).toInt else 0, fun a => if a = 1 then 100 else -1, fun a => if a = 1 then (L : Int) else 0, 2)
theorem tys_at {dA : Nat → ClassId} {P : ClassId → FieldType → Prop} (a0 : P (dA 0) .int) (a1 : P (dA 1) .long) (a2 : P (dA 2) .byte) (a3 : P (dA 3) .boolean) (a4 : P (dA 4) .char) (a5 : P (dA 5) (.object "SquadronFlags$Book")) (a6 : P (dA 6) (.array .int)) :
    ∀ (k : Nat) (q : ClassId × FieldType), (tysD dA)[k]? = some q → P q.1 q.2 := by
  intro k q h
  match k, h with
  | 0, h => cases h; exact a0
  | 1, h => cases h; exact a1
  | 2, h => cases h; exact a2
  | 3, h => cases h; exact a3
  | 4, h => cases h; exact a4
  | 5, h => cases h; exact a5
  | 6, h => cases h; exact a6
  | _ + 7, h => cases h
theorem kn_start {s : State} {b : Nat} {scr : Cell} (hts : ∀ w ∈ lw_tbl, w.before #[Value.ref b] s = true) (hscr : s.isArrayOf scr .int) : ∃ (D : va_G) (dA : Nat → ClassId), KN D dA scr s := by
  have hk : ∀ c, ∃ (x : ClassId × (Nat → Nat)), c < 13 → u_Kn s (qc c).1 (qc c).2.1 (qc c).2.2 x.1 x.2 := by
    intro c
    by_cases hc : c < 13
    · have hi := hts _ (qc_ins c hc)
      rw [← qc_nm c hc] at hi
      obtain ⟨cC, iS, h⟩ := u_known (ws := lw_tbl) hts (qc_in c hc) hi
      exact ⟨(cC, iS), fun _ => h⟩
    · exact ⟨(0, fun _ => 0), fun z => absurd z hc⟩
  have prim : ∀ ty : FieldType, Jvm.Cond.arrayClass ty ∈ lw_tbl → ∃ cA : ClassId, ArrOfT s cA ty ∧ s.vm.findClass ("[" ++ ty.toString) = some cA := by
    intro ty hm
    obtain ⟨cA, kA, comp, h1, h2, h3⟩ := Cond.arrayClass_spec (hts _ hm)
    exact ⟨cA, fun n z => ⟨fun k h => (by cases h), kA, h2, comp, h3⟩, h1⟩
  obtain ⟨d0, p0, q0⟩ := prim .int t_a_int
  obtain ⟨d1, p1, q1⟩ := prim .long t_a_long
  obtain ⟨d2, p2, q2⟩ := prim .byte t_a_byte
  obtain ⟨d3, p3, q3⟩ := prim .boolean t_a_boolean
  obtain ⟨d4, p4, q4⟩ := prim .char t_a_char
  have h5 : va_AO "SquadronFlags$Book" s := hts _ t_over
  obtain ⟨comp5, d5, k5, g1, g2, g3, g4, g5⟩ := Cond.arrayOver_spec h5
  have h6 : (Jvm.Cond.arrayOver (.array .int)).before #[] s = true := hts _ t_over2
  obtain ⟨comp6, d6, k6, f1, f2, f3, f4, f5⟩ := arrayOver_specB h6
  refine ⟨(fun c => (Classical.choose (hk c)).1, fun c => (Classical.choose (hk c)).2), fun k => match k with | 0 => d0 | 1 => d1 | 2 => d2 | 3 => d3 | 4 => d4 | 5 => d5 | _ => d6, fun w hw hg a => word_at (State.WarmedH.refl s) (good_of_word hg) (hts w hw), fun w hw hn => ?_, ⟨fun c q hq => ?_, ?_⟩, hscr⟩
  · have h2 := hts w hw
    cases w <;> first | (cases hn; done) | exact va_tabs rfl rfl h2 | exact h2
  · have hc : c < 13 := (List.getElem?_eq_some_iff.mp hq).1
    have e : q = qc c := Option.some.inj (hq.symm.trans (qc_at c hc))
    subst e
    exact Classical.choose_spec (hk c) hc
  · exact tys_at (P := fun cA ty => ArrOfT s cA ty ∧ va_RA s cA ty) ⟨p0, q0⟩ ⟨p1, q1⟩ ⟨p2, q2⟩ ⟨p3, q3⟩ ⟨p4, q4⟩ ⟨fun n z => ⟨fun k h => (by cases h), k5, g3, comp5, g4⟩, k5, comp5, g3, g4, g1, g5⟩ ⟨fun n z => ⟨fun k h => (by cases h), k6, f3, comp6, f4⟩, f5⟩
theorem hr_start {D : va_G} {dA : Nat → ClassId} {s : State} {b L : Nat} {xs : Nat → Int32} {scr : Cell} (hL : L ≤ 3072) (hbl : b < s.heap.size) (h1 : s.heap[b]? = some scr) (h2 : scr.vm ≠ .unknown) (h3 : scr.slots.size = L) (h4 : ∀ j : Nat, j < L → scr.slots[j]? = some (.int (xs j))) : HR D dA s.heap.size b scr (h0 L xs) s.heap := by
  refine ⟨Int.le_refl 2, rfl, hbl, fun a g1 g2 => ?_, fun a g => ?_, rfl, ?_, ?_, h1, h2, ?_, fun j g1 g2 => ?_⟩
  · have : a < 2 := g2
    omega
  · have e : (h0 L xs).2.2.2 = 2 := rfl
    show (if a = 1 then (100 : Int) else -1) = -1
    have g : a ≤ 0 ∨ (2 : Int) ≤ a := g
    rw [if_neg (by omega)]
  · show (0 : Int) ≤ (L : Int)
    omega
  · show (L : Int) < 2147483648
    omega
  · show scr.slots.size = (L : Int).toNat
    rw [h3]; rfl
  · have g2 : j < (L : Int) := g2
    refine ⟨?_, ?_⟩
    · rw [h4 j.toNat (by omega)]
      show _ = some (Value.int (Int32.ofInt (xs j.toNat).toInt))
      rw [Int32.ofInt_toInt]
    · exact i32_of (xs j.toNat)
