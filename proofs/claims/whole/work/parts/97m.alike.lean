/-! WHAT EACH PAIR OF CALLS LEAVES ALIKE (by wip/whole/gen/gen97m.py) -/
/-- the script is left alone -/
def Sc (h h' : PH) : Prop := tg h' 1 = tg h 1 ∧ ln h' 1 = ln h 1 ∧ ∀ j, gv h' 1 j = gv h 1 j
theorem Sc.trans {a b c : PH} (p : Sc a b) (q : Sc b c) : Sc a c := ⟨q.1.trans p.1, q.2.1.trans p.2.1, fun j => (q.2.2 j).trans (p.2.2 j)⟩
theorem sc_of {A : Int → Int → Bool} {h h' : PH} (K : Keep A h h') (d : ∀ i, A 1 i = false) : Sc h h' := ⟨K.2.2.1 1, K.2.2.2 1, fun j => K.1 1 j (d j)⟩
theorem ai_of {A : Int → Int → Bool} {h h' : PH} (R : AI h) (K : Keep A h h') (d : ∀ a i, ((a = 18 ∧ (i = 5 ∨ i = 6)) ∨ (a = 66 ∧ (i = 40 ∨ i = 46)) ∨ (19 ≤ a ∧ a ≤ 23) ∨ (79 ≤ a ∧ a ≤ 84) ∨ (94 ≤ a ∧ a ≤ 98) ∨ 128 ≤ a) → A a i = false) : AI h' := by
  have e : ∀ a i, ((a = 18 ∧ (i = 5 ∨ i = 6)) ∨ (a = 66 ∧ (i = 40 ∨ i = 46)) ∨ (19 ≤ a ∧ a ≤ 23) ∨ (79 ≤ a ∧ a ≤ 84) ∨ (94 ≤ a ∧ a ≤ 98) ∨ 128 ≤ a) → gv h' a i = gv h a i := fun a i z => K.1 a i (d a i z)
  obtain ⟨⟨a1, a2, a3, a4, a5, a6, a7⟩, b, c⟩ := R
  unfold AI
  rw [e 18 5 (by decide), e 18 6 (by decide), e 66 40 (by decide), e 66 46 (by decide), e 19 0 (by decide)]
  refine ⟨⟨a1, a2, a3, a4, a5, a6, a7⟩, fun k k0 k1 => ?_, fun k k0 k1 => by rw [e 19 k (by omega), e 20 k (by omega), e 23 k (by omega)]; exact c k k0 k1⟩
  obtain ⟨p1, p2, p3, p4⟩ := b k k0 k1
  unfold AR
  rw [e 98 k (by omega), e 23 k (by omega), e 94 k (by omega), e 20 k (by omega), e 19 k (by omega), e 97 k (by omega), e 95 k (by omega), e 96 k (by omega), e 21 k (by omega), e 22 k (by omega)]
  refine ⟨p1, p2, p3, ?_⟩
  rcases p4 with ⟨x, y, z⟩ | r | r
  · exact Or.inl ⟨x, y, z.of (fun a i ha => e a i (by omega)) K.2⟩
  · exact Or.inr (Or.inl r)
  · exact Or.inr (Or.inr r)
theorem inv_of {A : Int → Int → Bool} {h h' : PH} (I : Inv h) (K : Keep A h h') (dF : (∀ a i, ((6 ≤ a ∧ a ≤ 10) ∨ (86 ≤ a ∧ a ≤ 91)) → A a i = false) ∨ FI h') (dA : (∀ a i, ((a = 18 ∧ (i = 5 ∨ i = 6)) ∨ (a = 66 ∧ (i = 40 ∨ i = 46)) ∨ (19 ≤ a ∧ a ≤ 23) ∨ (79 ≤ a ∧ a ≤ 84) ∨ (94 ≤ a ∧ a ≤ 98) ∨ 128 ≤ a) → A a i = false) ∨ AI h') (dM : (∀ a i, ((a = 2 ∧ i = 10) ∨ (a = 66 ∧ i = 59) ∨ a = 107 ∨ a = 64) → A a i = false) ∨ MI h') (dS : (∀ a i, ((a = 2 ∧ i = 12) ∨ (a = 66 ∧ i = 68) ∨ a = 114 ∨ a = 65) → A a i = false) ∨ SentI h') (dL : (∀ a i, ((40 ≤ a ∧ a ≤ 58) ∨ (a = 38 ∧ (i = 3 ∨ i = 15)) ∨ (115 ≤ a ∧ a ≤ 124) ∨ (a = 66 ∧ 70 ≤ i ∧ i ≤ 81)) → A a i = false) ∨ LineI h') (dC : (∀ a i, ((a = 66 ∧ i = 87) ∨ (a = 59 ∧ i = 6) ∨ a = 62 ∨ a = 127) → A a i = false) ∨ ChI h') (dT : (∀ a i, ((a = 3 ∧ i = 1) ∨ (a = 66 ∧ i = 1) ∨ a = 4 ∨ a = 67) → A a i = false) ∨ TI h') (dW : (∀ a i, (68 ≤ a ∧ a ≤ 78) → A a i = false)) (dE : (∀ a i, ((a = 11 ∧ (i = 6 ∨ i = 7)) ∨ (a = 66 ∧ (i = 7 ∨ i = 8))) → A a i = false)) : Inv h' := by
  obtain ⟨i1, i2, i3, i4, i5, i6, i7, i8, i9, i10⟩ := I
  refine ⟨?_, ?_, ?_, ?_, ?_, ?_, ?_, ?_, ?_, ?_⟩
  · rcases dF with z | z
    · exact i1.keep K (fun a i y => z a i (flA_of y))
    · exact z
  · rcases dA with z | z
    · exact ai_of i2 K z
    · exact z
  · rcases dM with z | z
    · exact i3.kp (fun a i y => K.1 a i (z a i y))
    · exact z
  · rcases dS with z | z
    · exact i4.kp (fun a i y => K.1 a i (z a i y))
    · exact z
  · rcases dL with z | z
    · exact i5.kp (fun a i y => K.1 a i (z a i y))
    · exact z
  · rcases dC with z | z
    · exact i6.kp (fun a i y => K.1 a i (z a i y))
    · exact z
  · rcases dT with z | z
    · exact i7.kp (fun a i y => K.1 a i (z a i y))
    · exact z
  · exact i8.kp K (fun a i x y => dW a i ⟨x, y⟩)
  · rw [K.1 11 6 (dE 11 6 (by decide)), K.1 66 7 (dE 66 7 (by decide))]; exact i9
  · rw [K.1 11 7 (dE 11 7 (by decide)), K.1 66 8 (dE 66 8 (by decide))]; exact i10
def quA (a i : Int) : Bool := decide ((24 ≤ a ∧ a ≤ 37) ∨ (a = 66 ∧ (i = 38 ∨ i = 48 ∨ i = 49 ∨ i = 52 ∨ i = 56 ∨ i = 62 ∨ i = 83)) ∨ (92 ≤ a ∧ a ≤ 93) ∨ (99 ≤ a ∧ a ≤ 106) ∨ (109 ≤ a ∧ a ≤ 113) ∨ a = 125)
theorem inv_q {h h' : PH} (I : Inv h) (K : Keep quA h h') : Inv h' ∧ Sc h h' := ⟨inv_of I K (Or.inl (fun a i z => decide_eq_false (by omega))) (Or.inl (fun a i z => decide_eq_false (by omega))) (Or.inl (fun a i z => decide_eq_false (by omega))) (Or.inl (fun a i z => decide_eq_false (by omega))) (Or.inl (fun a i z => decide_eq_false (by omega))) (Or.inl (fun a i z => decide_eq_false (by omega))) (Or.inl (fun a i z => decide_eq_false (by omega))) (fun a i z => decide_eq_false (by omega)) (fun a i z => decide_eq_false (by omega)), sc_of K (fun i => decide_eq_false (by omega))⟩
theorem xA_quA : ∀ a i, quA a i = false → xA a i = false := fun a i => dw (by omega)
theorem mA_quA : ∀ a i, quA a i = false → mA a i = false := fun a i => dw (by omega)
theorem mhA_quA : ∀ a i, quA a i = false → mhA a i = false := fun a i => dw (by omega)
theorem mtkA_quA : ∀ a i, quA a i = false → mtkA a i = false := fun a i => dw (by omega)
theorem hoA_quA : ∀ a i, quA a i = false → hoA a i = false := fun a i z => hoA_f (fun y => of_decide_eq_false z (by omega))
theorem spA_quA : ∀ a i, quA a i = false → spA a i = false := fun a i z => hoA_w a i (hoA_quA a i z)
theorem quA_bkB : ∀ a i, bkB a i = false → quA a i = false := fun a i => dw (by omega)
def feA (a i : Int) : Bool := decide ((a = 3 ∧ i = 1) ∨ a = 4 ∨ (a = 66 ∧ i = 1) ∨ a = 67)
theorem inv_feA {h h' : PH} (I : Inv h) (K : Keep feA h h') (yT : TI h') : Inv h' ∧ Sc h h' := ⟨inv_of I K (Or.inl (fun a i z => decide_eq_false (by omega))) (Or.inl (fun a i z => decide_eq_false (by omega))) (Or.inl (fun a i z => decide_eq_false (by omega))) (Or.inl (fun a i z => decide_eq_false (by omega))) (Or.inl (fun a i z => decide_eq_false (by omega))) (Or.inl (fun a i z => decide_eq_false (by omega))) (Or.inr yT) (fun a i z => decide_eq_false (by omega)) (fun a i z => decide_eq_false (by omega)), sc_of K (fun i => decide_eq_false (by omega))⟩
def loA (a i : Int) : Bool := decide (a = 6 ∨ a = 7 ∨ a = 86 ∨ a = 87)
theorem inv_loA {h h' : PH} (I : Inv h) (K : Keep loA h h') (yF : FI h') : Inv h' ∧ Sc h h' := ⟨inv_of I K (Or.inr yF) (Or.inl (fun a i z => decide_eq_false (by omega))) (Or.inl (fun a i z => decide_eq_false (by omega))) (Or.inl (fun a i z => decide_eq_false (by omega))) (Or.inl (fun a i z => decide_eq_false (by omega))) (Or.inl (fun a i z => decide_eq_false (by omega))) (Or.inl (fun a i z => decide_eq_false (by omega))) (fun a i z => decide_eq_false (by omega)) (fun a i z => decide_eq_false (by omega)), sc_of K (fun i => decide_eq_false (by omega))⟩
def lyA (a i : Int) : Bool := decide (a = 9 ∨ a = 88)
theorem inv_lyA {h h' : PH} (I : Inv h) (K : Keep lyA h h') (yF : FI h') : Inv h' ∧ Sc h h' := ⟨inv_of I K (Or.inr yF) (Or.inl (fun a i z => decide_eq_false (by omega))) (Or.inl (fun a i z => decide_eq_false (by omega))) (Or.inl (fun a i z => decide_eq_false (by omega))) (Or.inl (fun a i z => decide_eq_false (by omega))) (Or.inl (fun a i z => decide_eq_false (by omega))) (Or.inl (fun a i z => decide_eq_false (by omega))) (fun a i z => decide_eq_false (by omega)) (fun a i z => decide_eq_false (by omega)), sc_of K (fun i => decide_eq_false (by omega))⟩
def haA (a i : Int) : Bool := decide (a = 10 ∨ a = 89 ∨ a = 90)
theorem inv_haA {h h' : PH} (I : Inv h) (K : Keep haA h h') (yF : FI h') : Inv h' ∧ Sc h h' := ⟨inv_of I K (Or.inr yF) (Or.inl (fun a i z => decide_eq_false (by omega))) (Or.inl (fun a i z => decide_eq_false (by omega))) (Or.inl (fun a i z => decide_eq_false (by omega))) (Or.inl (fun a i z => decide_eq_false (by omega))) (Or.inl (fun a i z => decide_eq_false (by omega))) (Or.inl (fun a i z => decide_eq_false (by omega))) (fun a i z => decide_eq_false (by omega)) (fun a i z => decide_eq_false (by omega)), sc_of K (fun i => decide_eq_false (by omega))⟩
def frA (a i : Int) : Bool := decide (a = 8 ∨ a = 91)
theorem inv_frA {h h' : PH} (I : Inv h) (K : Keep frA h h') (yF : FI h') : Inv h' ∧ Sc h h' := ⟨inv_of I K (Or.inr yF) (Or.inl (fun a i z => decide_eq_false (by omega))) (Or.inl (fun a i z => decide_eq_false (by omega))) (Or.inl (fun a i z => decide_eq_false (by omega))) (Or.inl (fun a i z => decide_eq_false (by omega))) (Or.inl (fun a i z => decide_eq_false (by omega))) (Or.inl (fun a i z => decide_eq_false (by omega))) (fun a i z => decide_eq_false (by omega)) (fun a i z => decide_eq_false (by omega)), sc_of K (fun i => decide_eq_false (by omega))⟩
def atA (a i : Int) : Bool := decide ((a = 18 ∧ (i = 5 ∨ i = 6)) ∨ (19 ≤ a ∧ a ≤ 23) ∨ (a = 66 ∧ (i = 38 ∨ i = 40 ∨ i = 46)) ∨ (92 ≤ a ∧ a ≤ 98))
theorem inv_atA {h h' : PH} (I : Inv h) (K : Keep atA h h') (yA : AI h') : Inv h' ∧ Sc h h' := ⟨inv_of I K (Or.inl (fun a i z => decide_eq_false (by omega))) (Or.inr yA) (Or.inl (fun a i z => decide_eq_false (by omega))) (Or.inl (fun a i z => decide_eq_false (by omega))) (Or.inl (fun a i z => decide_eq_false (by omega))) (Or.inl (fun a i z => decide_eq_false (by omega))) (Or.inl (fun a i z => decide_eq_false (by omega))) (fun a i z => decide_eq_false (by omega)) (fun a i z => decide_eq_false (by omega)), sc_of K (fun i => decide_eq_false (by omega))⟩
def meA (a i : Int) : Bool := decide ((a = 3 ∧ i = 1) ∨ a = 63 ∨ a = 64 ∨ (a = 2 ∧ i = 10) ∨ (a = 66 ∧ (1 ≤ i ∧ i ≤ 6 ∨ i = 59)) ∨ a = 107 ∨ a = 108)
theorem inv_meA {h h' : PH} (I : Inv h) (K : Keep meA h h') (yM : MI h') (yT : TI h') : Inv h' ∧ Sc h h' := ⟨inv_of I K (Or.inl (fun a i z => decide_eq_false (by omega))) (Or.inl (fun a i z => decide_eq_false (by omega))) (Or.inr yM) (Or.inl (fun a i z => decide_eq_false (by omega))) (Or.inl (fun a i z => decide_eq_false (by omega))) (Or.inl (fun a i z => decide_eq_false (by omega))) (Or.inr yT) (fun a i z => decide_eq_false (by omega)) (fun a i z => decide_eq_false (by omega)), sc_of K (fun i => decide_eq_false (by omega))⟩
def sdB (a i : Int) : Bool := decide ((24 ≤ a ∧ a ≤ 37) ∨ (a = 2 ∧ i = 12) ∨ a = 65 ∨ (a = 66 ∧ (i = 38 ∨ i = 48 ∨ i = 49 ∨ i = 52 ∨ i = 56 ∨ i = 62 ∨ i = 68)) ∨ (92 ≤ a ∧ a ≤ 93) ∨ (99 ≤ a ∧ a ≤ 106) ∨ (109 ≤ a ∧ a ≤ 114))
theorem inv_sdB {h h' : PH} (I : Inv h) (K : Keep sdB h h') (yS : SentI h') : Inv h' ∧ Sc h h' := ⟨inv_of I K (Or.inl (fun a i z => decide_eq_false (by omega))) (Or.inl (fun a i z => decide_eq_false (by omega))) (Or.inl (fun a i z => decide_eq_false (by omega))) (Or.inr yS) (Or.inl (fun a i z => decide_eq_false (by omega))) (Or.inl (fun a i z => decide_eq_false (by omega))) (Or.inl (fun a i z => decide_eq_false (by omega))) (fun a i z => decide_eq_false (by omega)) (fun a i z => decide_eq_false (by omega)), sc_of K (fun i => decide_eq_false (by omega))⟩
def liA (a i : Int) : Bool := decide ((24 ≤ a ∧ a ≤ 37) ∨ (a = 38 ∧ (i = 3 ∨ i = 15)) ∨ (40 ≤ a ∧ a ≤ 58) ∨ (a = 66 ∧ (i = 38 ∨ i = 48 ∨ i = 49 ∨ i = 52 ∨ i = 56 ∨ i = 62 ∨ i = 70 ∨ i = 71 ∨ i = 81)) ∨ (92 ≤ a ∧ a ≤ 93) ∨ (99 ≤ a ∧ a ≤ 106) ∨ (109 ≤ a ∧ a ≤ 113) ∨ (115 ≤ a ∧ a ≤ 124))
theorem inv_liA {h h' : PH} (I : Inv h) (K : Keep liA h h') (yL : LineI h') : Inv h' ∧ Sc h h' := ⟨inv_of I K (Or.inl (fun a i z => decide_eq_false (by omega))) (Or.inl (fun a i z => decide_eq_false (by omega))) (Or.inl (fun a i z => decide_eq_false (by omega))) (Or.inl (fun a i z => decide_eq_false (by omega))) (Or.inr yL) (Or.inl (fun a i z => decide_eq_false (by omega))) (Or.inl (fun a i z => decide_eq_false (by omega))) (fun a i z => decide_eq_false (by omega)) (fun a i z => decide_eq_false (by omega)), sc_of K (fun i => decide_eq_false (by omega))⟩
def cgA (a i : Int) : Bool := decide ((24 ≤ a ∧ a ≤ 37) ∨ (a = 59 ∧ (i = 3 ∨ i = 6)) ∨ (60 ≤ a ∧ a ≤ 62) ∨ (a = 66 ∧ (i = 38 ∨ i = 48 ∨ i = 49 ∨ i = 52 ∨ i = 56 ∨ i = 83 ∨ i = 85 ∨ i = 87)) ∨ (92 ≤ a ∧ a ≤ 93) ∨ (99 ≤ a ∧ a ≤ 104) ∨ (125 ≤ a ∧ a ≤ 127))
theorem inv_cgA {h h' : PH} (I : Inv h) (K : Keep cgA h h') (yC : ChI h') : Inv h' ∧ Sc h h' := ⟨inv_of I K (Or.inl (fun a i z => decide_eq_false (by omega))) (Or.inl (fun a i z => decide_eq_false (by omega))) (Or.inl (fun a i z => decide_eq_false (by omega))) (Or.inl (fun a i z => decide_eq_false (by omega))) (Or.inl (fun a i z => decide_eq_false (by omega))) (Or.inr yC) (Or.inl (fun a i z => decide_eq_false (by omega))) (fun a i z => decide_eq_false (by omega)) (fun a i z => decide_eq_false (by omega)), sc_of K (fun i => decide_eq_false (by omega))⟩
theorem putA_feA : ∀ a i, feA a i = false → putA a i = false := fun a i z => by
  have y := of_decide_eq_false z
  unfold putA
  cases c1 : (a == 3) <;> cases c2 : (i == 1) <;> cases c3 : (a == 4) <;> first | rfl | (exfalso; apply y; simp only [beq_iff_eq] at *; omega)
theorem mputA_feA : ∀ a i, feA a i = false → mputA a i = false := fun a i z => by
  have y := of_decide_eq_false z
  unfold mputA
  cases c1 : (a == 66) <;> cases c2 : (i == 1) <;> cases c3 : (a == 67) <;> first | rfl | (exfalso; apply y; simp only [beq_iff_eq] at *; omega)
theorem endA_feA : ∀ a i, feA a i = false → endA a i = false := fun a i z => by
  have y := of_decide_eq_false z
  unfold endA
  cases c1 : (a == 3) <;> cases c2 : (i == 1) <;> first | rfl | (exfalso; apply y; simp only [beq_iff_eq] at *; omega)
theorem mendA_feA : ∀ a i, feA a i = false → mendA a i = false := fun a i z => by
  have y := of_decide_eq_false z
  unfold mendA
  cases c1 : (a == 66) <;> cases c2 : (i == 1) <;> first | rfl | (exfalso; apply y; simp only [beq_iff_eq] at *; omega)
theorem allA_atA : ∀ a i, atA a i = false → allA a i = false := fun a i => dw (by omega)
theorem xmA_meA : ∀ a i, meA a i = false → xmA a i = false := fun a i => dw (by omega)
theorem mmA_meA : ∀ a i, meA a i = false → mmA a i = false := fun a i => dw (by omega)
theorem sxA_sdB : ∀ a i, sdB a i = false → sxA a i = false := fun a i => dw (by omega)
theorem smA_sdB : ∀ a i, sdB a i = false → smA a i = false := fun a i => dw (by omega)
theorem lxA_liA : ∀ a i, liA a i = false → lxA a i = false := fun a i => dw (by omega)
theorem lmA_liA : ∀ a i, liA a i = false → lmA a i = false := fun a i => dw (by omega)
theorem fcA_cgA : ∀ a i, cgA a i = false → fcA a i = false := fun a i => dw (by omega)
theorem mchA_cgA : ∀ a i, cgA a i = false → mchA a i = false := fun a i => dw (by omega)
theorem sv_keep {A : Int → Int → Bool} {h : PH} {a i v : Int} (z : A a i = true) : Keep A h (sv h a i v) := (Keep.rf _ _).sv z _

