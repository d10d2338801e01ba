/-! HOW A TEST IS READ: derivations over the tokens (by wip/whole/gen/gen84.py) -/
def jcd (v : Int) : Int := if v = 43 then 1 else if v = 45 then 2 else if v = 42 then 3 else -1
def ccd (v : Int) : Int := if v = 60 then 11 else if v = 62 then 12 else if v = 61 then 13 else -1
def fcd (v : Int) : Int := if v = 631088 then 4 else if v = 278194 then 5 else if v = 446125701 then 6 else if v = 264005 then 7 else -1
abbrev isWd (L : List Tok) (i : Nat) (w : Int) : Prop := (tk L i).1 = 1 ∧ (tk L i).2.2.2 = w
abbrev isSg (L : List Tok) (i : Nat) (c : Int) : Prop := (tk L i).1 = 4 ∧ (tk L i).2.2.2 = c
abbrev Rs := Sum (Nat × List Int) (Int × Int)
abbrev okR (j : Nat) (c : List Int) : Rs := .inl (j, c)
abbrev bdR (k p : Int) : Rs := .inr (k, p)
/-- the code of the sign that goes on a sum at token i; -1 none -/
def jAt (L : List Tok) (i : Nat) : Int := if (tk L i).1 = 4 then jcd (tk L i).2.2.2 else -1
def cAt (L : List Tok) (i : Nat) : Int := if (tk L i).1 = 4 then ccd (tk L i).2.2.2 else -1
/-- the code of the figure at token i; -1 none -/
def fAt (L : List Tok) (i : Nat) : Int := if (tk L i).1 = 2 then 1000 + (tk L i).2.2.2 else if (tk L i).1 = 1 then fcd (tk L i).2.2.2 else -1
/-- modes: 0 part 1 sum 2 its loop 3 comparison 4 fact 5 both 6 its loop 7 test 8 its loop -/
abbrev DR := Nat → List Int → Nat → Nat → Rs → Prop
def r_pDeep (L : List Tok) (R : DR) : Prop := ∀ (o : Nat) (i : Nat), isSg L i 40 → 6 ≤ o → R 0 [] o i (bdR 3 (tk L i).2.1)
def r_pIn (L : List Tok) (R : DR) : Prop := ∀ (o : Nat) (i : Nat) (k : Int) (p : Int), isSg L i 40 → o < 6 → R 1 [] (o + 1) (i + 1) (bdR k p) → R 0 [] o i (bdR k p)
def r_pOpen (L : List Tok) (R : DR) : Prop := ∀ (o : Nat) (i : Nat) (j : Nat) (c : List Int), isSg L i 40 → o < 6 → R 1 [] (o + 1) (i + 1) (okR j c) → isSg L j 41 → R 0 [] o i (okR (j + 1) c)
def r_pNot (L : List Tok) (R : DR) : Prop := ∀ (o : Nat) (i : Nat) (j : Nat) (c : List Int), isSg L i 40 → o < 6 → R 1 [] (o + 1) (i + 1) (okR j c) → ¬ isSg L j 41 → R 0 [] o i (bdR 1 (tk L j).2.1)
def r_pNone (L : List Tok) (R : DR) : Prop := ∀ (o : Nat) (i : Nat), ¬ isSg L i 40 → fAt L i = -1 → R 0 [] o i (bdR 1 (tk L i).2.1)
def r_pLong (L : List Tok) (R : DR) : Prop := ∀ (o : Nat) (i : Nat), ¬ isSg L i 40 → fAt L i ≠ -1 → (tk L i).1 = 2 → (tk L i).2.1 + 4 < (tk L i).2.2.1 → R 0 [] o i (bdR 1 ((tk L i).2.1 + 4))
def r_pFig (L : List Tok) (R : DR) : Prop := ∀ (o : Nat) (i : Nat), ¬ isSg L i 40 → fAt L i ≠ -1 → ¬ ((tk L i).1 = 2 ∧ (tk L i).2.1 + 4 < (tk L i).2.2.1) → R 0 [] o i (okR (i + 1) [fAt L i])
def r_sBad (L : List Tok) (R : DR) : Prop := ∀ (o : Nat) (i : Nat) (k : Int) (p : Int), R 0 [] o i (bdR k p) → R 1 [] o i (bdR k p)
def r_sGo (L : List Tok) (R : DR) : Prop := ∀ (o : Nat) (i : Nat) (j : Nat) (c : List Int) (r : Rs), R 0 [] o i (okR j c) → R 2 c o j r → R 1 [] o i r
def r_lEnd (L : List Tok) (R : DR) : Prop := ∀ (o : Nat) (i : Nat) (acc : List Int), jAt L i = -1 → R 2 acc o i (okR i acc)
def r_lBad (L : List Tok) (R : DR) : Prop := ∀ (o : Nat) (i : Nat) (acc : List Int) (k : Int) (p : Int), jAt L i ≠ -1 → R 0 [] o (i + 1) (bdR k p) → R 2 acc o i (bdR k p)
def r_lGo (L : List Tok) (R : DR) : Prop := ∀ (o : Nat) (i : Nat) (acc : List Int) (j : Nat) (c : List Int) (r : Rs), jAt L i ≠ -1 → R 0 [] o (i + 1) (okR j c) → R 2 (acc ++ c ++ [jAt L i]) o j r → R 2 acc o i r
def r_cBad (L : List Tok) (R : DR) : Prop := ∀ (o : Nat) (i : Nat) (k : Int) (p : Int), R 1 [] o i (bdR k p) → R 3 [] o i (bdR k p)
def r_cNo (L : List Tok) (R : DR) : Prop := ∀ (o : Nat) (i : Nat) (j : Nat) (c : List Int), R 1 [] o i (okR j c) → cAt L j = -1 → R 3 [] o i (bdR 1 (tk L j).2.1)
def r_cBad2 (L : List Tok) (R : DR) : Prop := ∀ (o : Nat) (i : Nat) (j : Nat) (c : List Int) (k : Int) (p : Int), R 1 [] o i (okR j c) → cAt L j ≠ -1 → R 1 [] o (j + 1) (bdR k p) → R 3 [] o i (bdR k p)
def r_cOk (L : List Tok) (R : DR) : Prop := ∀ (o : Nat) (i : Nat) (j : Nat) (c : List Int) (j' : Nat) (c' : List Int), R 1 [] o i (okR j c) → cAt L j ≠ -1 → R 1 [] o (j + 1) (okR j' c') → R 3 [] o i (okR j' (c ++ c' ++ [cAt L j]))
def r_fAll (L : List Tok) (R : DR) : Prop := ∀ (o : Nat) (i : Nat), isWd L i 1420 → R 4 [] o i (okR (i + 1) [17])
def r_fDeep (L : List Tok) (R : DR) : Prop := ∀ (o : Nat) (i : Nat), isWd L i 14836 ∨ isSg L i 91 → 6 ≤ o → R 4 [] o i (bdR 3 (tk L i).2.1)
def r_fNBad (L : List Tok) (R : DR) : Prop := ∀ (o : Nat) (i : Nat) (k : Int) (p : Int), isWd L i 14836 → o < 6 → R 4 [] (o + 1) (i + 1) (bdR k p) → R 4 [] o i (bdR k p)
def r_fNOk (L : List Tok) (R : DR) : Prop := ∀ (o : Nat) (i : Nat) (j : Nat) (c : List Int), isWd L i 14836 → o < 6 → R 4 [] (o + 1) (i + 1) (okR j c) → R 4 [] o i (okR j (c ++ [16]))
def r_fSBad (L : List Tok) (R : DR) : Prop := ∀ (o : Nat) (i : Nat) (k : Int) (p : Int), isSg L i 91 → o < 6 → R 7 [] (o + 1) (i + 1) (bdR k p) → R 4 [] o i (bdR k p)
def r_fSOk (L : List Tok) (R : DR) : Prop := ∀ (o : Nat) (i : Nat) (j : Nat) (c : List Int), isSg L i 91 → o < 6 → R 7 [] (o + 1) (i + 1) (okR j c) → isSg L j 93 → R 4 [] o i (okR (j + 1) c)
def r_fSNo (L : List Tok) (R : DR) : Prop := ∀ (o : Nat) (i : Nat) (j : Nat) (c : List Int), isSg L i 91 → o < 6 → R 7 [] (o + 1) (i + 1) (okR j c) → ¬ isSg L j 93 → R 4 [] o i (bdR 1 (tk L j).2.1)
def r_fComp (L : List Tok) (R : DR) : Prop := ∀ (o : Nat) (i : Nat) (r : Rs), ¬ isWd L i 1420 → ¬ isWd L i 14836 → ¬ isSg L i 91 → R 3 [] o i r → R 4 [] o i r
def r_bBad (L : List Tok) (R : DR) : Prop := ∀ (o : Nat) (i : Nat) (k : Int) (p : Int), R 4 [] o i (bdR k p) → R 5 [] o i (bdR k p)
def r_bGo (L : List Tok) (R : DR) : Prop := ∀ (o : Nat) (i : Nat) (j : Nat) (c : List Int) (r : Rs), R 4 [] o i (okR j c) → R 6 c o j r → R 5 [] o i r
def r_blEnd (L : List Tok) (R : DR) : Prop := ∀ (o : Nat) (i : Nat) (acc : List Int), ¬ isWd L i 1476 → R 6 acc o i (okR i acc)
def r_blBad (L : List Tok) (R : DR) : Prop := ∀ (o : Nat) (i : Nat) (acc : List Int) (k : Int) (p : Int), isWd L i 1476 → R 4 [] o (i + 1) (bdR k p) → R 6 acc o i (bdR k p)
def r_blGo (L : List Tok) (R : DR) : Prop := ∀ (o : Nat) (i : Nat) (acc : List Int) (j : Nat) (c : List Int) (r : Rs), isWd L i 1476 → R 4 [] o (i + 1) (okR j c) → R 6 (acc ++ c ++ [14]) o j r → R 6 acc o i r
def r_tBad (L : List Tok) (R : DR) : Prop := ∀ (o : Nat) (i : Nat) (k : Int) (p : Int), R 5 [] o i (bdR k p) → R 7 [] o i (bdR k p)
def r_tGo (L : List Tok) (R : DR) : Prop := ∀ (o : Nat) (i : Nat) (j : Nat) (c : List Int) (r : Rs), R 5 [] o i (okR j c) → R 8 c o j r → R 7 [] o i r
def r_tlEnd (L : List Tok) (R : DR) : Prop := ∀ (o : Nat) (i : Nat) (acc : List Int), ¬ isWd L i 498 → R 8 acc o i (okR i acc)
def r_tlBad (L : List Tok) (R : DR) : Prop := ∀ (o : Nat) (i : Nat) (acc : List Int) (k : Int) (p : Int), isWd L i 498 → R 5 [] o (i + 1) (bdR k p) → R 8 acc o i (bdR k p)
def r_tlGo (L : List Tok) (R : DR) : Prop := ∀ (o : Nat) (i : Nat) (acc : List Int) (j : Nat) (c : List Int) (r : Rs), isWd L i 498 → R 5 [] o (i + 1) (okR j c) → R 8 (acc ++ c ++ [15]) o j r → R 8 acc o i r
def Clo (L : List Tok) (R : DR) : Prop := r_pDeep L R ∧ r_pIn L R ∧ r_pOpen L R ∧ r_pNot L R ∧ r_pNone L R ∧ r_pLong L R ∧ r_pFig L R ∧ r_sBad L R ∧ r_sGo L R ∧ r_lEnd L R ∧ r_lBad L R ∧ r_lGo L R ∧ r_cBad L R ∧ r_cNo L R ∧ r_cBad2 L R ∧ r_cOk L R ∧ r_fAll L R ∧ r_fDeep L R ∧ r_fNBad L R ∧ r_fNOk L R ∧ r_fSBad L R ∧ r_fSOk L R ∧ r_fSNo L R ∧ r_fComp L R ∧ r_bBad L R ∧ r_bGo L R ∧ r_blEnd L R ∧ r_blBad L R ∧ r_blGo L R ∧ r_tBad L R ∧ r_tGo L R ∧ r_tlEnd L R ∧ r_tlBad L R ∧ r_tlGo L R
def Dv (L : List Tok) (m : Nat) (acc : List Int) (o i : Nat) (r : Rs) : Prop := ∀ R : DR, Clo L R → R m acc o i r
theorem Dv.pDeep {L : List Tok} {o : Nat} {i : Nat} (h0 : isSg L i 40) (h1 : 6 ≤ o) : Dv L 0 [] o i (bdR 3 (tk L i).2.1) := fun R C => C.1 _ _ h0 h1
theorem Dv.pIn {L : List Tok} {o : Nat} {i : Nat} {k : Int} {p : Int} (h0 : isSg L i 40) (h1 : o < 6) (h2 : Dv L 1 [] (o + 1) (i + 1) (bdR k p)) : Dv L 0 [] o i (bdR k p) := fun R C => C.2.1 _ _ _ _ h0 h1 (h2 R C)
theorem Dv.pOpen {L : List Tok} {o : Nat} {i : Nat} {j : Nat} {c : List Int} (h0 : isSg L i 40) (h1 : o < 6) (h2 : Dv L 1 [] (o + 1) (i + 1) (okR j c)) (h3 : isSg L j 41) : Dv L 0 [] o i (okR (j + 1) c) := fun R C => C.2.2.1 _ _ _ _ h0 h1 (h2 R C) h3
theorem Dv.pNot {L : List Tok} {o : Nat} {i : Nat} {j : Nat} {c : List Int} (h0 : isSg L i 40) (h1 : o < 6) (h2 : Dv L 1 [] (o + 1) (i + 1) (okR j c)) (h3 : ¬ isSg L j 41) : Dv L 0 [] o i (bdR 1 (tk L j).2.1) := fun R C => C.2.2.2.1 _ _ _ _ h0 h1 (h2 R C) h3
theorem Dv.pNone {L : List Tok} {o : Nat} {i : Nat} (h0 : ¬ isSg L i 40) (h1 : fAt L i = -1) : Dv L 0 [] o i (bdR 1 (tk L i).2.1) := fun R C => C.2.2.2.2.1 _ _ h0 h1
theorem Dv.pLong {L : List Tok} {o : Nat} {i : Nat} (h0 : ¬ isSg L i 40) (h1 : fAt L i ≠ -1) (h2 : (tk L i).1 = 2) (h3 : (tk L i).2.1 + 4 < (tk L i).2.2.1) : Dv L 0 [] o i (bdR 1 ((tk L i).2.1 + 4)) := fun R C => C.2.2.2.2.2.1 _ _ h0 h1 h2 h3
theorem Dv.pFig {L : List Tok} {o : Nat} {i : Nat} (h0 : ¬ isSg L i 40) (h1 : fAt L i ≠ -1) (h2 : ¬ ((tk L i).1 = 2 ∧ (tk L i).2.1 + 4 < (tk L i).2.2.1)) : Dv L 0 [] o i (okR (i + 1) [fAt L i]) := fun R C => C.2.2.2.2.2.2.1 _ _ h0 h1 h2
theorem Dv.sBad {L : List Tok} {o : Nat} {i : Nat} {k : Int} {p : Int} (h0 : Dv L 0 [] o i (bdR k p)) : Dv L 1 [] o i (bdR k p) := fun R C => C.2.2.2.2.2.2.2.1 _ _ _ _ (h0 R C)
theorem Dv.sGo {L : List Tok} {o : Nat} {i : Nat} {j : Nat} {c : List Int} {r : Rs} (h0 : Dv L 0 [] o i (okR j c)) (h1 : Dv L 2 c o j r) : Dv L 1 [] o i r := fun R C => C.2.2.2.2.2.2.2.2.1 _ _ _ _ _ (h0 R C) (h1 R C)
theorem Dv.lEnd {L : List Tok} {o : Nat} {i : Nat} {acc : List Int} (h0 : jAt L i = -1) : Dv L 2 acc o i (okR i acc) := fun R C => C.2.2.2.2.2.2.2.2.2.1 _ _ _ h0
theorem Dv.lBad {L : List Tok} {o : Nat} {i : Nat} {acc : List Int} {k : Int} {p : Int} (h0 : jAt L i ≠ -1) (h1 : Dv L 0 [] o (i + 1) (bdR k p)) : Dv L 2 acc o i (bdR k p) := fun R C => C.2.2.2.2.2.2.2.2.2.2.1 _ _ _ _ _ h0 (h1 R C)
theorem Dv.lGo {L : List Tok} {o : Nat} {i : Nat} {acc : List Int} {j : Nat} {c : List Int} {r : Rs} (h0 : jAt L i ≠ -1) (h1 : Dv L 0 [] o (i + 1) (okR j c)) (h2 : Dv L 2 (acc ++ c ++ [jAt L i]) o j r) : Dv L 2 acc o i r := fun R C => C.2.2.2.2.2.2.2.2.2.2.2.1 _ _ _ _ _ _ h0 (h1 R C) (h2 R C)
theorem Dv.cBad {L : List Tok} {o : Nat} {i : Nat} {k : Int} {p : Int} (h0 : Dv L 1 [] o i (bdR k p)) : Dv L 3 [] o i (bdR k p) := fun R C => C.2.2.2.2.2.2.2.2.2.2.2.2.1 _ _ _ _ (h0 R C)
theorem Dv.cNo {L : List Tok} {o : Nat} {i : Nat} {j : Nat} {c : List Int} (h0 : Dv L 1 [] o i (okR j c)) (h1 : cAt L j = -1) : Dv L 3 [] o i (bdR 1 (tk L j).2.1) := fun R C => C.2.2.2.2.2.2.2.2.2.2.2.2.2.1 _ _ _ _ (h0 R C) h1
theorem Dv.cBad2 {L : List Tok} {o : Nat} {i : Nat} {j : Nat} {c : List Int} {k : Int} {p : Int} (h0 : Dv L 1 [] o i (okR j c)) (h1 : cAt L j ≠ -1) (h2 : Dv L 1 [] o (j + 1) (bdR k p)) : Dv L 3 [] o i (bdR k p) := fun R C => C.2.2.2.2.2.2.2.2.2.2.2.2.2.2.1 _ _ _ _ _ _ (h0 R C) h1 (h2 R C)
theorem Dv.cOk {L : List Tok} {o : Nat} {i : Nat} {j : Nat} {c : List Int} {j' : Nat} {c' : List Int} (h0 : Dv L 1 [] o i (okR j c)) (h1 : cAt L j ≠ -1) (h2 : Dv L 1 [] o (j + 1) (okR j' c')) : Dv L 3 [] o i (okR j' (c ++ c' ++ [cAt L j])) := fun R C => C.2.2.2.2.2.2.2.2.2.2.2.2.2.2.2.1 _ _ _ _ _ _ (h0 R C) h1 (h2 R C)
theorem Dv.fAll {L : List Tok} {o : Nat} {i : Nat} (h0 : isWd L i 1420) : Dv L 4 [] o i (okR (i + 1) [17]) := fun R C => C.2.2.2.2.2.2.2.2.2.2.2.2.2.2.2.2.1 _ _ h0
theorem Dv.fDeep {L : List Tok} {o : Nat} {i : Nat} (h0 : isWd L i 14836 ∨ isSg L i 91) (h1 : 6 ≤ o) : Dv L 4 [] o i (bdR 3 (tk L i).2.1) := fun R C => C.2.2.2.2.2.2.2.2.2.2.2.2.2.2.2.2.2.1 _ _ h0 h1
theorem Dv.fNBad {L : List Tok} {o : Nat} {i : Nat} {k : Int} {p : Int} (h0 : isWd L i 14836) (h1 : o < 6) (h2 : Dv L 4 [] (o + 1) (i + 1) (bdR k p)) : Dv L 4 [] o i (bdR k p) := fun R C => C.2.2.2.2.2.2.2.2.2.2.2.2.2.2.2.2.2.2.1 _ _ _ _ h0 h1 (h2 R C)
theorem Dv.fNOk {L : List Tok} {o : Nat} {i : Nat} {j : Nat} {c : List Int} (h0 : isWd L i 14836) (h1 : o < 6) (h2 : Dv L 4 [] (o + 1) (i + 1) (okR j c)) : Dv L 4 [] o i (okR j (c ++ [16])) := fun R C => C.2.2.2.2.2.2.2.2.2.2.2.2.2.2.2.2.2.2.2.1 _ _ _ _ h0 h1 (h2 R C)
theorem Dv.fSBad {L : List Tok} {o : Nat} {i : Nat} {k : Int} {p : Int} (h0 : isSg L i 91) (h1 : o < 6) (h2 : Dv L 7 [] (o + 1) (i + 1) (bdR k p)) : Dv L 4 [] o i (bdR k p) := fun R C => C.2.2.2.2.2.2.2.2.2.2.2.2.2.2.2.2.2.2.2.2.1 _ _ _ _ h0 h1 (h2 R C)
theorem Dv.fSOk {L : List Tok} {o : Nat} {i : Nat} {j : Nat} {c : List Int} (h0 : isSg L i 91) (h1 : o < 6) (h2 : Dv L 7 [] (o + 1) (i + 1) (okR j c)) (h3 : isSg L j 93) : Dv L 4 [] o i (okR (j + 1) c) := fun R C => C.2.2.2.2.2.2.2.2.2.2.2.2.2.2.2.2.2.2.2.2.2.1 _ _ _ _ h0 h1 (h2 R C) h3
theorem Dv.fSNo {L : List Tok} {o : Nat} {i : Nat} {j : Nat} {c : List Int} (h0 : isSg L i 91) (h1 : o < 6) (h2 : Dv L 7 [] (o + 1) (i + 1) (okR j c)) (h3 : ¬ isSg L j 93) : Dv L 4 [] o i (bdR 1 (tk L j).2.1) := fun R C => C.2.2.2.2.2.2.2.2.2.2.2.2.2.2.2.2.2.2.2.2.2.2.1 _ _ _ _ h0 h1 (h2 R C) h3
theorem Dv.fComp {L : List Tok} {o : Nat} {i : Nat} {r : Rs} (h0 : ¬ isWd L i 1420) (h1 : ¬ isWd L i 14836) (h2 : ¬ isSg L i 91) (h3 : Dv L 3 [] o i r) : Dv L 4 [] o i r := fun R C => C.2.2.2.2.2.2.2.2.2.2.2.2.2.2.2.2.2.2.2.2.2.2.2.1 _ _ _ h0 h1 h2 (h3 R C)
theorem Dv.bBad {L : List Tok} {o : Nat} {i : Nat} {k : Int} {p : Int} (h0 : Dv L 4 [] o i (bdR k p)) : Dv L 5 [] o i (bdR k p) := fun R C => C.2.2.2.2.2.2.2.2.2.2.2.2.2.2.2.2.2.2.2.2.2.2.2.2.1 _ _ _ _ (h0 R C)
theorem Dv.bGo {L : List Tok} {o : Nat} {i : Nat} {j : Nat} {c : List Int} {r : Rs} (h0 : Dv L 4 [] o i (okR j c)) (h1 : Dv L 6 c o j r) : Dv L 5 [] o i r := fun R C => C.2.2.2.2.2.2.2.2.2.2.2.2.2.2.2.2.2.2.2.2.2.2.2.2.2.1 _ _ _ _ _ (h0 R C) (h1 R C)
theorem Dv.blEnd {L : List Tok} {o : Nat} {i : Nat} {acc : List Int} (h0 : ¬ isWd L i 1476) : Dv L 6 acc o i (okR i acc) := fun R C => C.2.2.2.2.2.2.2.2.2.2.2.2.2.2.2.2.2.2.2.2.2.2.2.2.2.2.1 _ _ _ h0
theorem Dv.blBad {L : List Tok} {o : Nat} {i : Nat} {acc : List Int} {k : Int} {p : Int} (h0 : isWd L i 1476) (h1 : Dv L 4 [] o (i + 1) (bdR k p)) : Dv L 6 acc o i (bdR k p) := fun R C => C.2.2.2.2.2.2.2.2.2.2.2.2.2.2.2.2.2.2.2.2.2.2.2.2.2.2.2.1 _ _ _ _ _ h0 (h1 R C)
theorem Dv.blGo {L : List Tok} {o : Nat} {i : Nat} {acc : List Int} {j : Nat} {c : List Int} {r : Rs} (h0 : isWd L i 1476) (h1 : Dv L 4 [] o (i + 1) (okR j c)) (h2 : Dv L 6 (acc ++ c ++ [14]) o j r) : Dv L 6 acc o i r := fun R C => C.2.2.2.2.2.2.2.2.2.2.2.2.2.2.2.2.2.2.2.2.2.2.2.2.2.2.2.2.1 _ _ _ _ _ _ h0 (h1 R C) (h2 R C)
theorem Dv.tBad {L : List Tok} {o : Nat} {i : Nat} {k : Int} {p : Int} (h0 : Dv L 5 [] o i (bdR k p)) : Dv L 7 [] o i (bdR k p) := fun R C => C.2.2.2.2.2.2.2.2.2.2.2.2.2.2.2.2.2.2.2.2.2.2.2.2.2.2.2.2.2.1 _ _ _ _ (h0 R C)
theorem Dv.tGo {L : List Tok} {o : Nat} {i : Nat} {j : Nat} {c : List Int} {r : Rs} (h0 : Dv L 5 [] o i (okR j c)) (h1 : Dv L 8 c o j r) : Dv L 7 [] o i r := fun R C => C.2.2.2.2.2.2.2.2.2.2.2.2.2.2.2.2.2.2.2.2.2.2.2.2.2.2.2.2.2.2.1 _ _ _ _ _ (h0 R C) (h1 R C)
theorem Dv.tlEnd {L : List Tok} {o : Nat} {i : Nat} {acc : List Int} (h0 : ¬ isWd L i 498) : Dv L 8 acc o i (okR i acc) := fun R C => C.2.2.2.2.2.2.2.2.2.2.2.2.2.2.2.2.2.2.2.2.2.2.2.2.2.2.2.2.2.2.2.1 _ _ _ h0
theorem Dv.tlBad {L : List Tok} {o : Nat} {i : Nat} {acc : List Int} {k : Int} {p : Int} (h0 : isWd L i 498) (h1 : Dv L 5 [] o (i + 1) (bdR k p)) : Dv L 8 acc o i (bdR k p) := fun R C => C.2.2.2.2.2.2.2.2.2.2.2.2.2.2.2.2.2.2.2.2.2.2.2.2.2.2.2.2.2.2.2.2.1 _ _ _ _ _ h0 (h1 R C)
theorem Dv.tlGo {L : List Tok} {o : Nat} {i : Nat} {acc : List Int} {j : Nat} {c : List Int} {r : Rs} (h0 : isWd L i 498) (h1 : Dv L 5 [] o (i + 1) (okR j c)) (h2 : Dv L 8 (acc ++ c ++ [15]) o j r) : Dv L 8 acc o i r := fun R C => C.2.2.2.2.2.2.2.2.2.2.2.2.2.2.2.2.2.2.2.2.2.2.2.2.2.2.2.2.2.2.2.2.2 _ _ _ _ _ _ h0 (h1 R C) (h2 R C)
/-- no more steps than tokens -/
def LenP (m : Nat) (acc : List Int) (i : Nat) (r : Rs) : Prop := match r with
  | .inr _ => True
  | .inl (j, c) => if m = 2 ∨ m = 6 ∨ m = 8 then i ≤ j ∧ c.length + i ≤ j + acc.length else i < j ∧ c.length + i ≤ j
theorem lp_l {m : Nat} {acc : List Int} {i j : Nat} {c : List Int} (z : m = 2 ∨ m = 6 ∨ m = 8) : LenP m acc i (okR j c) ↔ (i ≤ j ∧ c.length + i ≤ j + acc.length) := by
  show (if _ then _ else _) ↔ _
  rw [if_pos z]
theorem lp_n {m : Nat} {acc : List Int} {i j : Nat} {c : List Int} (z : ¬ (m = 2 ∨ m = 6 ∨ m = 8)) : LenP m acc i (okR j c) ↔ (i < j ∧ c.length + i ≤ j) := by
  show (if _ then _ else _) ↔ _
  rw [if_neg z]
theorem len_clo (L : List Tok) : Clo L (fun m acc _ i r => LenP m acc i r) := by
  refine ⟨?_, ?_, ?_, ?_, ?_, ?_, ?_, ?_, ?_, ?_, ?_, ?_, ?_, ?_, ?_, ?_, ?_, ?_, ?_, ?_, ?_, ?_, ?_, ?_, ?_, ?_, ?_, ?_, ?_, ?_, ?_, ?_, ?_, ?_⟩
  · intro o i h0 h1
    trivial
  · intro o i k p h0 h1 h2
    trivial
  · intro o i j c h0 h1 h2 h3
    have h2 := (lp_n (by decide)).1 h2
    refine (lp_n (by decide)).2 ⟨?_, ?_⟩
    all_goals (try simp only [List.length_append, List.length_singleton] at *)
    all_goals omega
  · intro o i j c h0 h1 h2 h3
    trivial
  · intro o i h0 h1
    trivial
  · intro o i h0 h1 h2 h3
    trivial
  · intro o i h0 h1 h2
    refine (lp_n (by decide)).2 ⟨?_, ?_⟩
    all_goals (try simp only [List.length_append, List.length_singleton] at *)
    all_goals omega
  · intro o i k p h0
    trivial
  · intro o i j c r h0 h1
    rcases r with ⟨jj, cc⟩ | z
    rotate_left
    · trivial
    have h0 := (lp_n (by decide)).1 h0
    have h1 := (lp_l (by decide)).1 h1
    refine (lp_n (by decide)).2 ⟨?_, ?_⟩
    all_goals (try simp only [List.length_append, List.length_singleton] at *)
    all_goals omega
  · intro o i acc h0
    refine (lp_l (by decide)).2 ⟨?_, ?_⟩
    all_goals (try simp only [List.length_append, List.length_singleton] at *)
    all_goals omega
  · intro o i acc k p h0 h1
    trivial
  · intro o i acc j c r h0 h1 h2
    rcases r with ⟨jj, cc⟩ | z
    rotate_left
    · trivial
    have h1 := (lp_n (by decide)).1 h1
    have h2 := (lp_l (by decide)).1 h2
    refine (lp_l (by decide)).2 ⟨?_, ?_⟩
    all_goals (try simp only [List.length_append, List.length_singleton] at *)
    all_goals omega
  · intro o i k p h0
    trivial
  · intro o i j c h0 h1
    trivial
  · intro o i j c k p h0 h1 h2
    trivial
  · intro o i j c j' c' h0 h1 h2
    have h0 := (lp_n (by decide)).1 h0
    have h2 := (lp_n (by decide)).1 h2
    refine (lp_n (by decide)).2 ⟨?_, ?_⟩
    all_goals (try simp only [List.length_append, List.length_singleton] at *)
    all_goals omega
  · intro o i h0
    refine (lp_n (by decide)).2 ⟨?_, ?_⟩
    all_goals (try simp only [List.length_append, List.length_singleton] at *)
    all_goals omega
  · intro o i h0 h1
    trivial
  · intro o i k p h0 h1 h2
    trivial
  · intro o i j c h0 h1 h2
    have h2 := (lp_n (by decide)).1 h2
    refine (lp_n (by decide)).2 ⟨?_, ?_⟩
    all_goals (try simp only [List.length_append, List.length_singleton] at *)
    all_goals omega
  · intro o i k p h0 h1 h2
    trivial
  · intro o i j c h0 h1 h2 h3
    have h2 := (lp_n (by decide)).1 h2
    refine (lp_n (by decide)).2 ⟨?_, ?_⟩
    all_goals (try simp only [List.length_append, List.length_singleton] at *)
    all_goals omega
  · intro o i j c h0 h1 h2 h3
    trivial
  · intro o i r h0 h1 h2 h3
    rcases r with ⟨jj, cc⟩ | z
    rotate_left
    · trivial
    have h3 := (lp_n (by decide)).1 h3
    refine (lp_n (by decide)).2 ⟨?_, ?_⟩
    all_goals (try simp only [List.length_append, List.length_singleton] at *)
    all_goals omega
  · intro o i k p h0
    trivial
  · intro o i j c r h0 h1
    rcases r with ⟨jj, cc⟩ | z
    rotate_left
    · trivial
    have h0 := (lp_n (by decide)).1 h0
    have h1 := (lp_l (by decide)).1 h1
    refine (lp_n (by decide)).2 ⟨?_, ?_⟩
    all_goals (try simp only [List.length_append, List.length_singleton] at *)
    all_goals omega
  · intro o i acc h0
    refine (lp_l (by decide)).2 ⟨?_, ?_⟩
    all_goals (try simp only [List.length_append, List.length_singleton] at *)
    all_goals omega
  · intro o i acc k p h0 h1
    trivial
  · intro o i acc j c r h0 h1 h2
    rcases r with ⟨jj, cc⟩ | z
    rotate_left
    · trivial
    have h1 := (lp_n (by decide)).1 h1
    have h2 := (lp_l (by decide)).1 h2
    refine (lp_l (by decide)).2 ⟨?_, ?_⟩
    all_goals (try simp only [List.length_append, List.length_singleton] at *)
    all_goals omega
  · intro o i k p h0
    trivial
  · intro o i j c r h0 h1
    rcases r with ⟨jj, cc⟩ | z
    rotate_left
    · trivial
    have h0 := (lp_n (by decide)).1 h0
    have h1 := (lp_l (by decide)).1 h1
    refine (lp_n (by decide)).2 ⟨?_, ?_⟩
    all_goals (try simp only [List.length_append, List.length_singleton] at *)
    all_goals omega
  · intro o i acc h0
    refine (lp_l (by decide)).2 ⟨?_, ?_⟩
    all_goals (try simp only [List.length_append, List.length_singleton] at *)
    all_goals omega
  · intro o i acc k p h0 h1
    trivial
  · intro o i acc j c r h0 h1 h2
    rcases r with ⟨jj, cc⟩ | z
    rotate_left
    · trivial
    have h1 := (lp_n (by decide)).1 h1
    have h2 := (lp_l (by decide)).1 h2
    refine (lp_l (by decide)).2 ⟨?_, ?_⟩
    all_goals (try simp only [List.length_append, List.length_singleton] at *)
    all_goals omega
theorem Dv.len {L : List Tok} {m o i : Nat} {acc : List Int} {r : Rs} (h : Dv L m acc o i r) : LenP m acc i r := h _ (len_clo L)
theorem Dv.len1 {L : List Tok} {m o i j : Nat} {acc c : List Int} (h : Dv L m acc o i (okR j c)) (z : ¬ (m = 2 ∨ m = 6 ∨ m = 8)) : i < j ∧ c.length + i ≤ j := (lp_n z).1 h.len

