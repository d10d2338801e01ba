/-! SEES: what a hoist may be, model's side -/
def inA (a i : Int) : Bool := decide ((a = 66 ∧ (i = 38 ∨ i = 52 ∨ i = 56)) ∨ a = 92 ∨ a = 93 ∨ (102 ≤ a ∧ a ≤ 104) ∨ a = 106)
theorem inA_bkB : ∀ a i, bkB a i = false → inA a i = false := fun a i => dw (by omega)
theorem hoA_inA : ∀ a i, inA a i = false → hoA a i = false := fun a i z => hoA_f (fun y => of_decide_eq_false z (by omega))
theorem rdA_inA : ∀ a i, inA a i = false → rdA a i = false := fun a i => dw (by omega)
theorem inA_open : ∀ a i, bkB a i = false ∨ (a = 66 ∧ i = 49) ∨ a = 100 ∨ a = 101 → inA a i = false := fun a i z => decide_eq_false (fun y => by
  rcases z with z | z
  · exact of_decide_eq_false z (by omega)
  · omega)
/-- what the loops stand on -/
def SC (h : PH) (w k s t z : Int) : Prop := (∀ i : Int, 0 ≤ i → i < rl w → gv h 105 i = sg w (rl w) i) ∧ isHo w ∧ Open h k s t z ∧ (0 ≤ k ∧ k ≤ 200) ∧ (0 ≤ gv h 79 k ∧ gv h 79 k ≤ 40) ∧ tvs h k s t z ∧ FI h
def ZS (h : PH) (dm w p x : Int) : Prop := (p < rl w ∧ (1 ≤ x ∧ x ≤ 29) ∧ MB h dm (sg w (rl w) p) x) ∨ (rl w ≤ p ∧ x = 0)
def cf (a b c e : Int) (i : Nat) : Int := if i = 0 then a else if i = 1 then b else if i = 2 then c else e
abbrev nc (w a b c e : Int) : Int := nu (cf a b c e) (rl w).toNat
def SQ (h : PH) (W : Int → Int → Prop) (w a b c e : Int) (l : List Int) : Prop := isHo (nc w a b c e) ∧ Rd W (told (nc w a b c e)) l
def Q3 (h : PH) (W : Int → Int → Prop) (dm w a b c : Int) (l : List Int) : Prop := ∃ e, ZS h dm w 3 e ∧ SQ h W w a b c e l
def Q2 (h : PH) (W : Int → Int → Prop) (dm w a b : Int) (l : List Int) : Prop := ∃ c, ZS h dm w 2 c ∧ Q3 h W dm w a b c l
def Q1 (h : PH) (W : Int → Int → Prop) (dm w a : Int) (l : List Int) : Prop := ∃ b, ZS h dm w 1 b ∧ Q2 h W dm w a b l
def Q0 (h : PH) (W : Int → Int → Prop) (dm w : Int) (l : List Int) : Prop := ∃ a, ZS h dm w 0 a ∧ Q1 h W dm w a l
theorem Q0_iff {h : PH} {W : Int → Int → Prop} {dm w : Int} (g : isHo w) (l : List Int) : Q0 h W dm w l ↔ SeenQ h W dm w l := by
  have b := rl_in w
  have gp := g.1
  constructor
  · rintro ⟨a, za, b', zb, c, zc, e, ze, sq⟩
    refine ⟨cf a b' c e, fun i hi => ?_, sq.1, sq.2⟩
    rcases (show i = 0 ∨ i = 1 ∨ i = 2 ∨ i = 3 by omega) with rfl | rfl | rfl | rfl
    · rcases za with z | z
      · exact z.2.2
      · omega
    · rcases zb with z | z
      · exact z.2.2
      · omega
    · rcases zc with z | z
      · exact z.2.2
      · omega
    · rcases ze with z | z
      · exact z.2.2
      · omega
  · rintro ⟨c, hc, q1, q2⟩
    have z : ∀ i : Nat, ZS h dm w i (if (i : Int) < rl w then c i else 0) := fun i => by
      by_cases y : (i : Int) < rl w
      · rw [if_pos y]
        have gi := g.2 i (by omega) y
        exact Or.inl ⟨y, (hc i y).in gi.1 gi.2.1, hc i y⟩
      · rw [if_neg y]; exact Or.inr ⟨by omega, rfl⟩
    have e : nc w (if ((0 : Nat) : Int) < rl w then c 0 else 0) (if ((1 : Nat) : Int) < rl w then c 1 else 0) (if ((2 : Nat) : Int) < rl w then c 2 else 0) (if ((3 : Nat) : Int) < rl w then c 3 else 0) = nu c (rl w).toNat := nu_congr _ (fun i hi => by
      rcases (show i = 0 ∨ i = 1 ∨ i = 2 ∨ i = 3 by omega) with rfl | rfl | rfl | rfl
      · exact (if_pos (show ((0 : Nat) : Int) < rl w by omega) : (if ((0 : Nat) : Int) < rl w then c 0 else 0) = c 0)
      · exact (if_pos (show ((1 : Nat) : Int) < rl w by omega) : (if ((1 : Nat) : Int) < rl w then c 1 else 0) = c 1)
      · exact (if_pos (show ((2 : Nat) : Int) < rl w by omega) : (if ((2 : Nat) : Int) < rl w then c 2 else 0) = c 2)
      · exact (if_pos (show ((3 : Nat) : Int) < rl w by omega) : (if ((3 : Nat) : Int) < rl w then c 3 else 0) = c 3))
    exact ⟨_, z 0, _, z 1, _, z 2, _, z 3, by rw [e]; exact q1, by rw [e]; exact q2⟩
theorem m_mayBe {d : Nat} {h : PH} {q : PQ} (S : Shape h) (p x dm : Int) {y : Int} (F : FI h) (hy : gv h 105 p = y) (p0 : 0 ≤ p) (p1 : p < 4) (y1 : 1 ≤ y) (y2 : y ≤ 29) (x1 : 1 ≤ x) (x2 : x ≤ 29) (K1 : MB h dm y x → q (some (.inl 1)) h) (K2 : ¬ MB h dm y x → q (some (.inl 0)) h) :
    Wp (d + 1) 0 0 M_X12_mayBe 0 [some (.inr (.inr 66)), some (.inl p), some (.inl x), some (.inl dm), none] [] h q := by
  have ei : 26 * (y - 1) + x - 1 = (y - 1) * 26 + (x - 1) := by omega
  unfold MB at K1 K2
  rw [← ei] at K1 K2
  refine p_aload 1 rfl rfl rfl ?_
  refine p_getfr (j := 57) (z := 105) 4 rfl rfl rfl (tg_66 S) rfl (fi_66_57 S) ?_
  refine p_iload 5 rfl rfl rfl ?_
  refine p_iald (w := 4) (z := y) 6 rfl rfl (tg_105 S) (ln_105 S) (by omega) (by omega) hy ?_
  refine p_const 8 rfl rfl ?_
  refine p_ic_gt 11 17 rfl rfl rfl (fun c1 => ?_) (fun c1 => ?_)
  · skip
    refine p_aload 18 rfl rfl rfl ?_
    refine p_getfr (j := 57) (z := 105) 21 rfl rfl rfl (tg_66 S) rfl (fi_66_57 S) ?_
    refine p_iload 22 rfl rfl rfl ?_
    refine p_iald (w := 4) (z := y) 23 rfl rfl (tg_105 S) (ln_105 S) (by omega) (by omega) hy ?_
    refine p_iload 24 rfl rfl rfl ?_
    refine p_ic_ne 27 31 rfl rfl rfl (fun c2 => ?_) (fun c2 => ?_)
    · skip
      refine p_const 32 rfl rfl ?_
      refine p_zret rfl rfl (by decide) ?_
      -- leaf 1: answer [.inl 0] h=h 
      first | exact K1 (by omega) | exact K2 (by omega)
    · skip
      refine p_const 28 rfl rfl ?_
      refine p_goto 32 rfl rfl ?_
      refine p_zret rfl rfl (by decide) ?_
      -- leaf 2: answer [.inl 1] h=h 
      first | exact K1 (by omega) | exact K2 (by omega)
  · skip
    refine p_iload 12 rfl rfl rfl ?_
    refine p_const 14 rfl rfl ?_
    refine p_ic_le 17 33 rfl rfl rfl (fun c3 => ?_) (fun c3 => ?_)
    · skip
      refine p_aload 34 rfl rfl rfl ?_
      refine p_getfr (j := 33) (z := 88) 37 rfl rfl rfl (tg_66 S) rfl (fi_66_33 S) ?_
      refine p_const 39 rfl rfl ?_
      refine p_aload 40 rfl rfl rfl ?_
      refine p_getfr (j := 57) (z := 105) 43 rfl rfl rfl (tg_66 S) rfl (fi_66_57 S) ?_
      refine p_iload 44 rfl rfl rfl ?_
      refine p_iald (w := 4) (z := y) 45 rfl rfl (tg_105 S) (ln_105 S) (by omega) (by omega) hy ?_
      refine p_const 46 rfl rfl ?_
      refine p_isub (z := y - 1) 47 rfl rfl (w32_id ⟨(by omega), (by omega)⟩) ?_
      refine p_imul (z := 26 * (y - 1)) 48 rfl rfl (w32_id ⟨(by omega), (by omega)⟩) ?_
      refine p_iload 49 rfl rfl rfl ?_
      refine p_iadd (z := (26 * (y - 1)) + x) 50 rfl rfl (w32_id ⟨(by omega), (by omega)⟩) ?_
      refine p_const 51 rfl rfl ?_
      refine p_isub (z := ((26 * (y - 1)) + x) - 1) 52 rfl rfl (w32_id ⟨(by omega), (by omega)⟩) ?_
      refine p_iald (w := 676) (z := gv h 88 (((26 * (y - 1)) + x) - 1)) 53 rfl rfl (tg_88 S) (ln_88 S) (by omega) (by omega) rfl ?_
      refine p_istore (ls' := [some (.inr (.inr 66)), some (.inl p), some (.inl x), some (.inl dm), some (.inl (gv h 88 (((26 * (y - 1)) + x) - 1)))]) 55 rfl rfl (Nat.le_of_ble_eq_true rfl) rfl ?_
      refine p_aload 56 rfl rfl rfl ?_
      refine p_getfr (j := 57) (z := 105) 59 rfl rfl rfl (tg_66 S) rfl (fi_66_57 S) ?_
      refine p_iload 60 rfl rfl rfl ?_
      refine p_iald (w := 4) (z := y) 61 rfl rfl (tg_105 S) (ln_105 S) (by omega) (by omega) hy ?_
      refine p_iload 62 rfl rfl rfl ?_
      refine p_ic_eq 65 76 rfl rfl rfl (fun c4 => ?_) (fun c4 => ?_)
      · skip
        refine p_const 77 rfl rfl ?_
        refine p_goto 81 rfl rfl ?_
        refine p_zret rfl rfl (by decide) ?_
        -- leaf 3: answer [.inl 1] h=h 
        first | exact K1 (by omega) | exact K2 (by omega)
      · skip
        refine p_iload 67 rfl rfl rfl ?_
        refine p_if_le 70 80 rfl rfl rfl (fun c5 => ?_) (fun c5 => ?_)
        · skip
          refine p_const 81 rfl rfl ?_
          refine p_zret rfl rfl (by decide) ?_
          -- leaf 4: answer [.inl 0] h=h 
          first | exact K1 (by omega) | exact K2 (by omega)
        · skip
          refine p_iload 72 rfl rfl rfl ?_
          refine p_iload 73 rfl rfl rfl ?_
          refine p_ic_gt 76 80 rfl rfl rfl (fun c6 => ?_) (fun c6 => ?_)
          · skip
            refine p_const 81 rfl rfl ?_
            refine p_zret rfl rfl (by decide) ?_
            -- leaf 5: answer [.inl 0] h=h 
            first | exact K1 (by omega) | exact K2 (by omega)
          · skip
            refine p_const 77 rfl rfl ?_
            refine p_goto 81 rfl rfl ?_
            refine p_zret rfl rfl (by decide) ?_
            -- leaf 6: answer [.inl 1] h=h 
            first | exact K1 (by omega) | exact K2 (by omega)
    · skip
      refine p_aload 18 rfl rfl rfl ?_
      refine p_getfr (j := 57) (z := 105) 21 rfl rfl rfl (tg_66 S) rfl (fi_66_57 S) ?_
      refine p_iload 22 rfl rfl rfl ?_
      refine p_iald (w := 4) (z := y) 23 rfl rfl (tg_105 S) (ln_105 S) (by omega) (by omega) hy ?_
      refine p_iload 24 rfl rfl rfl ?_
      refine p_ic_ne 27 31 rfl rfl rfl (fun c7 => ?_) (fun c7 => ?_)
      · skip
        refine p_const 32 rfl rfl ?_
        refine p_zret rfl rfl (by decide) ?_
        -- leaf 7: answer [.inl 0] h=h 
        first | exact K1 (by omega) | exact K2 (by omega)
      · skip
        refine p_const 28 rfl rfl ?_
        refine p_goto 32 rfl rfl ?_
        refine p_zret rfl rfl (by decide) ?_
        -- leaf 8: answer [.inl 1] h=h 
        first | exact K1 (by omega) | exact K2 (by omega)
theorem ZS.in {h : PH} {dm w p x : Int} (z : ZS h dm w p x) (y : p < rl w) : 1 ≤ x ∧ x ≤ 29 := by
  rcases z with z | z
  · exact z.2.1
  · omega
section SEES
variable {d : Nat} {h : PH} {q : PQ} {w dm most k s t z : Int} {lim : Nat}
set_option maxRecDepth 4000 in
theorem se_v (C : SC h w k s t z) (hl : most = lim) {a b c e : Int} (za : ZS h dm w 0 a) (zb : ZS h dm w 1 b) (zc : ZS h dm w 2 c) (ze : ZS h dm w 3 e)
    {L0 : List (List Int)} {h1 : PH} (S1 : Shape h1) (k1 : Keep inA h h1) (R1 : RowsM h1 L0 lim) (w9 w10 : Option PV)
    (KD : ∀ (x9 x10 : Option PV) L' h', Shape h' → Keep inA h h' → RowsM h' L' lim → Ext L0 L' lim (SQ h (Ws h k s t z) w a b c e) → Wp (d + 4) 0 0 M_X12_sees 352 [some (.inr (.inr 66)), some (.inl w), some (.inl dm), some (.inl most), some (.inl (rl w)), some (.inl a), some (.inl b), some (.inl c), some (.inl e), x9, x10] [] h' q) :
    Wp (d + 4) 0 0 M_X12_sees 266 [some (.inr (.inr 66)), some (.inl w), some (.inl dm), some (.inl most), some (.inl (rl w)), some (.inl a), some (.inl b), some (.inl c), some (.inl e), w9, w10] [] h1 q := by
  obtain ⟨C1, C2, C3, C4, C5, C6, C7⟩ := C
  have rb := rl_in w
  have wp := C2.1
  have hcf : ∀ i : Nat, i < (rl w).toNat → 1 ≤ cf a b c e i ∧ cf a b c e i ≤ 29 := fun i hi => by
    rcases (show i = 0 ∨ i = 1 ∨ i = 2 ∨ i = 3 by omega) with rfl | rfl | rfl | rfl
    · exact za.in (by omega)
    · exact zb.in (by omega)
    · exact zc.in (by omega)
    · exact ze.in (by omega)
  have hrl : rl (nc w a b c e) = rl w := by
    rw [rl_nu (by omega) (by omega) hcf, Int.toNat_of_nonneg rb.1]
  have hni := nu_in (c := cf a b c e) (rl w).toNat (by omega) hcf
  have J : ∀ (n : Nat) (i : Nat) (h2 : PH), (i : Int) + n = rl w → Shape h2 → Keep inA h h2 → RowsM h2 L0 lim → (∀ j : Nat, j < 4 → gv h2 106 j = cf a b c e j) →
      Wp (d + 4) 0 0 M_X12_sees 304 [some (.inr (.inr 66)), some (.inl w), some (.inl dm), some (.inl most), some (.inl (rl w)), some (.inl a), some (.inl b), some (.inl c), some (.inl e), some (.inl (nu (cf a b c e) i)), some (.inl i)] [] h2 q := by
    intro n
    induction n with
    | zero =>
      intro i h2 hn S2 k2 R2 g2
      have hi : i = (rl w).toNat := by omega
      subst hi
      have kB := k2.wide inA_bkB
      refine p_iload 306 rfl rfl rfl ?_
      refine p_iload 308 rfl rfl rfl ?_
      refine p_ic_ge_t 332 rfl rfl (by omega) ?_
      refine p_aload 333 rfl rfl rfl ?_
      refine p_iload 335 rfl rfl rfl ?_
      refine p_callv (le := [some (.inr (.inr 66)), some (.inl (nc w a b c e)), none, none]) (as := [.inr (.inr 66), .inl (nc w a b c e)]) (rest := []) 338 0 0 0 0 rfl rfl (Nat.le_of_ble_eq_true rfl) rfl (Nat.le_of_ble_eq_true rfl) rfl rfl (Nat.le_of_ble_eq_true rfl) rfl (Nat.le_of_ble_eq_true rfl) rfl (Nat.le_refl _) (Nat.le_refl _) rfl rfl (tg_66 S2) ?_
      refine m_isHo S2 (nc w a b c e) (fun r1 y1 p1 S1 => ?_)
      have kp1 : Keep inA h y1 := k2.trans (p1.1.wide hoA_inA)
      show Wp (d + 4) 0 0 M_X12_sees 338 [some (.inr (.inr 66)), some (.inl w), some (.inl dm), some (.inl most), some (.inl (rl w)), some (.inl a), some (.inl b), some (.inl c), some (.inl e), some (.inl (nc w a b c e)), some (.inl ((rl w).toNat))] [.inl r1] y1 _
      refine p_if_eq 341 352 rfl rfl rfl (fun c2 => ?_) (fun c2 => ?_)
      · skip
        -- leaf 1: loop 352 [some (.inr (.inr 66)), some (.inl w), some (.inl dm), some (.inl most), some (.inl (rl w)), some (.inl a), some (.inl b), some (.inl c), some (.inl e), some (.inl (nc w a b c e)), some (.inl ((rl w).toNat))] st=[] h=y1  kp1
        have R3 : RowsM y1 L0 lim := R2.kp (fun a i z => p1.1.1 a i (hoA_f (by omega)))
        refine KD _ _ L0 _ S1 kp1 R3 ((Ext.refl R3.2.1 R3.2.2.1).imp (fun l => ⟨False.elim, fun y => absurd y.1 (p1.no c2)⟩))
      · skip
        refine p_aload 342 rfl rfl rfl ?_
        have py := p1.yes c2
        have R3 : RowsM y1 L0 lim := R2.kp (fun a i z => p1.1.1 a i (hoA_f (by omega)))
        have O3 := C3.kp kp1 inA_open
        have kB1 := kp1.wide inA_bkB
        have n1 : gv y1 79 k = gv h 79 k := kB1.1 79 k rfl
        have tr := told_rl py.1
        have ert : lv (nc w a b c e) (rl w) (rl w).toNat = told (nc w a b c e) := by unfold told; rw [hrl]
        refine p_aload 343 rfl rfl rfl ?_
        refine p_iload 345 rfl rfl rfl ?_
        refine p_callv (le := [some (.inr (.inr 66)), some (.inl (rl w)), none, none]) (as := [.inr (.inr 66), .inl (rl w)]) (rest := [.inr (.inr 66)]) 348 0 0 0 0 rfl rfl (Nat.le_of_ble_eq_true rfl) rfl (Nat.le_of_ble_eq_true rfl) rfl rfl (Nat.le_of_ble_eq_true rfl) rfl (Nat.le_of_ble_eq_true rfl) rfl (Nat.le_refl _) (Nat.le_refl _) rfl rfl (tg_66 S1) ?_
        refine m_rowOf S1 (nc w a b c e) (rl w) rb.1 rb.2 (fun j hj => by rw [← hrl]; exact (py.2.2 j (by rw [hrl]; exact hj)).2) ?_
        show Wp (d + 4) 0 0 M_X12_sees 348 [some (.inr (.inr 66)), some (.inl w), some (.inl dm), some (.inl most), some (.inl (rl w)), some (.inl a), some (.inl b), some (.inl c), some (.inl e), some (.inl (nc w a b c e)), some (.inl ((rl w).toNat))] [.inl (lv (nc w a b c e) (rl w) (rl w).toNat), .inr (.inr 66)] y1 _
        refine p_iload 349 rfl rfl rfl ?_
        refine p_callv (le := [some (.inr (.inr 66)), some (.inl (lv (nc w a b c e) (rl w) (rl w).toNat)), some (.inl most), none, none, none, none, none]) (as := [.inr (.inr 66), .inl (lv (nc w a b c e) (rl w) (rl w).toNat), .inl most]) (rest := []) 352 0 0 0 0 rfl rfl (Nat.le_of_ble_eq_true rfl) rfl (Nat.le_of_ble_eq_true rfl) rfl rfl (Nat.le_of_ble_eq_true rfl) rfl (Nat.le_of_ble_eq_true rfl) rfl (Nat.le_refl _) (Nat.le_refl _) rfl rfl (tg_66 S1) ?_
        refine m_reads S1 (lv (nc w a b c e) (rl w) (rl w).toNat) most hl (by rw [ert]; exact tr.1) O3 C4.1 C4.2 (by omega) (by omega) (C6.kp kB1) R3 (fun y4 p4 S4 => ?_)
        have kp4 : Keep inA h y4 := kp1.trans (p4.1.wide rdA_inA)
        show Wp (d + 4) 0 0 M_X12_sees 352 [some (.inr (.inr 66)), some (.inl w), some (.inl dm), some (.inl most), some (.inl (rl w)), some (.inl a), some (.inl b), some (.inl c), some (.inl e), some (.inl (nc w a b c e)), some (.inl ((rl w).toNat))] [] y4 _
        -- leaf 2: loop 352 [some (.inr (.inr 66)), some (.inl w), some (.inl dm), some (.inl most), some (.inl (rl w)), some (.inl a), some (.inl b), some (.inl c), some (.inl e), some (.inl (nc w a b c e)), some (.inl ((rl w).toNat))] st=[] h=y4  kp4
        obtain ⟨k3, L', q2, q3⟩ := p4
        rw [Ws_congr kB1, ert] at q3
        exact KD _ _ L' _ S4 kp4 q2 (q3.imp (fun l => ⟨fun y => ⟨py.1, y⟩, fun y => y.2⟩))
    | succ n ih =>
      intro i h2 hn S2 k2 R2 g2
      have ni := nu_in (c := cf a b c e) i (by omega) (fun j hj => hcf j (by omega))
      have ci := hcf i (by omega)
      have gi := g2 i (by omega)
      have up : nu (cf a b c e) (i + 1) = nu (cf a b c e) i * 32 + cf a b c e i := rfl
      refine p_iload 306 rfl rfl rfl ?_
      refine p_iload 308 rfl rfl rfl ?_
      refine p_ic_ge_f 311 rfl rfl (by omega) ?_
      refine p_const 313 rfl rfl ?_
      refine p_iload 315 rfl rfl rfl ?_
      refine p_imul (z := 32 * (nu (cf a b c e) i)) 316 rfl rfl (w32_id ⟨(by omega), (by omega)⟩) ?_
      refine p_aload 317 rfl rfl rfl ?_
      refine p_getfr (j := 58) (z := 106) 320 rfl rfl rfl (tg_66 S2) rfl (fi_66_58 S2) ?_
      refine p_iload 322 rfl rfl rfl ?_
      refine p_iald (w := 4) (z := gv h2 106 i) 323 rfl rfl (tg_106 S2) (ln_106 S2) (by omega) (by omega) rfl ?_
      refine p_iadd (z := (32 * (nu (cf a b c e) i)) + (gv h2 106 i)) 324 rfl rfl (w32_id ⟨(by omega), (by omega)⟩) ?_
      refine p_istore (ls' := [some (.inr (.inr 66)), some (.inl w), some (.inl dm), some (.inl most), some (.inl (rl w)), some (.inl a), some (.inl b), some (.inl c), some (.inl e), some (.inl ((32 * (nu (cf a b c e) i)) + (gv h2 106 i))), some (.inl i)]) 326 rfl rfl (Nat.le_of_ble_eq_true rfl) rfl ?_
      refine p_iinc (y := i + 1) (ls' := [some (.inr (.inr 66)), some (.inl w), some (.inl dm), some (.inl most), some (.inl (rl w)), some (.inl a), some (.inl b), some (.inl c), some (.inl e), some (.inl ((32 * (nu (cf a b c e) i)) + (gv h2 106 i))), some (.inl (i + 1))]) 329 rfl rfl rfl (w32_id ⟨(by omega), (by omega)⟩) rfl ?_
      refine p_goto 304 rfl rfl ?_
      -- leaf 1: loop 304 [some (.inr (.inr 66)), some (.inl w), some (.inl dm), some (.inl most), some (.inl (rl w)), some (.inl a), some (.inl b), some (.inl c), some (.inl e), some (.inl ((32 * (nu (cf a b c e) i)) + (gv h2 106 i))), some (.inl (i + 1))] st=[] h=h2 
      have fin := ih (i + 1) h2 (by omega) S2 k2 R2 g2
      rw [up, show nu (cf a b c e) i * 32 + cf a b c e i = 32 * nu (cf a b c e) i + gv h2 106 i by omega] at fin
      exact fin
  refine p_aload 267 rfl rfl rfl ?_
  refine p_getfr (j := 58) (z := 106) 270 rfl rfl rfl (tg_66 S1) rfl (fi_66_58 S1) ?_
  refine p_const 271 rfl rfl ?_
  refine p_iload 273 rfl rfl rfl ?_
  refine p_iast (w := 4) 274 rfl rfl (by decide) (tg_106 S1) (ln_106 S1) (by decide) (by decide) ?_
  refine p_nmh (fun y1 e1 => ?_)
  have S1 : Shape y1 := by rw [e1]; exact S1.svA fa_106 _ _
  refine p_aload 275 rfl rfl rfl ?_
  refine p_getfr (j := 58) (z := 106) 278 rfl rfl rfl (tg_66 S1) rfl (fi_66_58 S1) ?_
  refine p_const 279 rfl rfl ?_
  refine p_iload 281 rfl rfl rfl ?_
  refine p_iast (w := 4) 282 rfl rfl (by decide) (tg_106 S1) (ln_106 S1) (by decide) (by decide) ?_
  refine p_nmh (fun y2 e2 => ?_)
  have S2 : Shape y2 := by rw [e2]; exact S1.svA fa_106 _ _
  refine p_aload 283 rfl rfl rfl ?_
  refine p_getfr (j := 58) (z := 106) 286 rfl rfl rfl (tg_66 S2) rfl (fi_66_58 S2) ?_
  refine p_const 287 rfl rfl ?_
  refine p_iload 289 rfl rfl rfl ?_
  refine p_iast (w := 4) 290 rfl rfl (by decide) (tg_106 S2) (ln_106 S2) (by decide) (by decide) ?_
  refine p_nmh (fun y3 e3 => ?_)
  have S3 : Shape y3 := by rw [e3]; exact S2.svA fa_106 _ _
  refine p_aload 291 rfl rfl rfl ?_
  refine p_getfr (j := 58) (z := 106) 294 rfl rfl rfl (tg_66 S3) rfl (fi_66_58 S3) ?_
  refine p_const 295 rfl rfl ?_
  refine p_iload 297 rfl rfl rfl ?_
  refine p_iast (w := 4) 298 rfl rfl (by decide) (tg_106 S3) (ln_106 S3) (by decide) (by decide) ?_
  refine p_nmh (fun y4 e4 => ?_)
  have S4 : Shape y4 := by rw [e4]; exact S3.svA fa_106 _ _
  refine p_const 299 rfl rfl ?_
  refine p_istore (ls' := [some (.inr (.inr 66)), some (.inl w), some (.inl dm), some (.inl most), some (.inl (rl w)), some (.inl a), some (.inl b), some (.inl c), some (.inl e), some (.inl 0), w10]) 301 rfl rfl (Nat.le_of_ble_eq_true rfl) rfl ?_
  refine p_const 302 rfl rfl ?_
  refine p_istore (ls' := [some (.inr (.inr 66)), some (.inl w), some (.inl dm), some (.inl most), some (.inl (rl w)), some (.inl a), some (.inl b), some (.inl c), some (.inl e), some (.inl 0), some (.inl 0)]) 304 rfl rfl (Nat.le_of_ble_eq_true rfl) rfl ?_
  -- leaf 1: loop 304 [some (.inr (.inr 66)), some (.inl w), some (.inl dm), some (.inl most), some (.inl (rl w)), some (.inl a), some (.inl b), some (.inl c), some (.inl e), some (.inl 0), some (.inl 0)] st=[] h=y4 e4,e3,e2,e1
  refine J (rl w).toNat 0 _ (by omega) S4 (by rw [e4, e3, e2, e1]; exact (((k1.sv rfl _).sv rfl _).sv rfl _).sv rfl _) (R1.kp (fun a i z => by rw [e4, e3, e2, e1, sv_ne (by omega), sv_ne (by omega), sv_ne (by omega), sv_ne (by omega)])) (fun j hj => ?_)
  rcases (show j = 0 ∨ j = 1 ∨ j = 2 ∨ j = 3 by omega) with rfl | rfl | rfl | rfl
  · show gv _ 106 0 = a; rw [e4, e3, e2, e1, sv_nf (by decide), sv_nf (by decide), sv_nf (by decide), sv_eq]
  · show gv _ 106 1 = b; rw [e4, e3, e2, e1, sv_nf (by decide), sv_nf (by decide), sv_eq]
  · show gv _ 106 2 = c; rw [e4, e3, e2, e1, sv_nf (by decide), sv_eq]
  · show gv _ 106 3 = e; rw [e4, e3, e2, e1, sv_eq]
set_option maxRecDepth 4000 in
theorem se_e (C : SC h w k s t z) (hl : most = lim) {a b c : Int} (za : ZS h dm w 0 a) (zb : ZS h dm w 1 b) (zc : ZS h dm w 2 c)  {lo hi : Int} (hlo : (3 < rl w ∧ lo = 1 ∧ hi = 29) ∨ (rl w ≤ 3 ∧ lo = 0 ∧ hi = 0))
    {L0 : List (List Int)} {h1 : PH} (S1 : Shape h1) (k1 : Keep inA h h1) (R1 : RowsM h1 L0 lim) (w0 w1 : Option PV)
    (KD : ∀ (x0 x1 x2 : Option PV) L' h', Shape h' → Keep inA h h' → RowsM h' L' lim → Ext L0 L' lim (Q3 h (Ws h k s t z) dm w a b c) → Wp (d + 4) 0 0 M_X12_sees 358 [some (.inr (.inr 66)), some (.inl w), some (.inl dm), some (.inl most), some (.inl (rl w)), some (.inl a), some (.inl b), some (.inl c), x0, x1, x2] [] h' q) :
    Wp (d + 4) 0 0 M_X12_sees 221 [some (.inr (.inr 66)), some (.inl w), some (.inl dm), some (.inl most), some (.inl (rl w)), some (.inl a), some (.inl b), some (.inl c), some (.inl lo), w0, w1] [] h1 q := by
  have C0 := C
  obtain ⟨C1, C2, C3, C4, C5, C6, C7⟩ := C
  have wp := C2.1
  have J : ∀ (n : Nat) (e : Int) (w0 w1 : Option PV) (L1 : List (List Int)) (h2 : PH), e + n = hi + 1 → lo ≤ e → Shape h2 → Keep inA h h2 → RowsM h2 L1 lim → Ext L0 L1 lim (fun l => ∃ u, (lo ≤ u ∧ u < e) ∧ ZS h dm w 3 u ∧ SQ h (Ws h k s t z) w a b c u l) →
      Wp (d + 4) 0 0 M_X12_sees 221 [some (.inr (.inr 66)), some (.inl w), some (.inl dm), some (.inl most), some (.inl (rl w)), some (.inl a), some (.inl b), some (.inl c), some (.inl e), w0, w1] [] h2 q := by
    intro n
    induction n with
    | zero =>
      intro e w0 w1 L1 h2 hn e0 S2 k2 R2 X
      have fin : Ext L0 L1 lim (Q3 h (Ws h k s t z) dm w a b c) := X.imp (fun l => ⟨fun ⟨u, p, y⟩ => ⟨u, y⟩, fun ⟨u, y⟩ => ⟨u, by have := y.1; unfold ZS at this; omega, y⟩⟩)
      refine p_iload 223 rfl rfl rfl ?_
      refine p_iload 225 rfl rfl rfl ?_
      refine p_const 226 rfl rfl ?_
      refine p_ic_le 229 234 rfl rfl rfl (fun c1 => ?_) (fun c1 => ?_)
      · skip
        refine p_const 235 rfl rfl ?_
        refine p_ic_gt_t 358 rfl rfl (by omega) ?_
        -- leaf 1: loop 358 [some (.inr (.inr 66)), some (.inl w), some (.inl dm), some (.inl most), some (.inl (rl w)), some (.inl a), some (.inl b), some (.inl c), some (.inl e), w0, w1] st=[] h=h2 
        exact KD _ _ _ L1 h2 S2 k2 R2 fin
      · skip
        refine p_const 231 rfl rfl ?_
        refine p_goto 235 rfl rfl ?_
        refine p_ic_gt_t 358 rfl rfl (by omega) ?_
        -- leaf 2: loop 358 [some (.inr (.inr 66)), some (.inl w), some (.inl dm), some (.inl most), some (.inl (rl w)), some (.inl a), some (.inl b), some (.inl c), some (.inl e), w0, w1] st=[] h=h2 
        exact KD _ _ _ L1 h2 S2 k2 R2 fin
    | succ n ih =>
      intro e w0 w1 L1 h2 hn e0 S2 k2 R2 X
      have r1 := R2.1
      have kB := k2.wide inA_bkB
      have F2 := C7.kp kB
      have hy : 3 < rl w → gv h2 105 3 = sg w (rl w) 3 := fun y => (k2.1 105 3 rfl).trans (C1 3 (by decide) y)
      have gy : 3 < rl w → 1 ≤ sg w (rl w) 3 ∧ sg w (rl w) 3 ≤ 29 := fun y => ⟨(C2.2 3 (by decide) y).1, (C2.2 3 (by decide) y).2.1⟩
      have full : lim ≤ L1.length → Ext L0 L1 lim (Q3 h (Ws h k s t z) dm w a b c) := fun f => X.full f (fun l ⟨u, p, y⟩ => ⟨u, y⟩)
      have step : ZS h dm w 3 e → ∀ (v0 v1 : Option PV) (L' : List (List Int)) (h' : PH), Shape h' → Keep inA h h' → RowsM h' L' lim → Ext L1 L' lim (SQ h (Ws h k s t z) w a b c e) → Wp (d + 4) 0 0 M_X12_sees 352 [some (.inr (.inr 66)), some (.inl w), some (.inl dm), some (.inl most), some (.inl (rl w)), some (.inl a), some (.inl b), some (.inl c), some (.inl e), v0, v1] [] h' q := by
        intro zx v0 v1 L' h' S' k' R' X'
        refine p_iinc (y := e + 1) (ls' := [some (.inr (.inr 66)), some (.inl w), some (.inl dm), some (.inl most), some (.inl (rl w)), some (.inl a), some (.inl b), some (.inl c), some (.inl (e + 1)), v0, v1]) 355 rfl rfl rfl (w32_id ⟨(by omega), (by omega)⟩) rfl ?_
        refine p_goto 221 rfl rfl ?_
        -- leaf 1: loop 221 [some (.inr (.inr 66)), some (.inl w), some (.inl dm), some (.inl most), some (.inl (rl w)), some (.inl a), some (.inl b), some (.inl c), some (.inl (e + 1)), v0, v1] st=[] h=h' 
        refine ih (e + 1) _ _ L' h' (by omega) (by omega) S' k' R' ((X.trans X').imp (fun l => ⟨?_, ?_⟩))
        · rintro (⟨u, p, y⟩ | y)
          · exact ⟨u, by omega, y⟩
          · exact ⟨e, by omega, zx, y⟩
        · rintro ⟨u, p, y⟩
          by_cases e : u = e
          · rw [e] at y; exact Or.inr y.2
          · exact Or.inl ⟨u, by omega, y⟩
      have skip : ¬ ZS h dm w 3 e → ∀ (v0 v1 : Option PV), Wp (d + 4) 0 0 M_X12_sees 221 [some (.inr (.inr 66)), some (.inl w), some (.inl dm), some (.inl most), some (.inl (rl w)), some (.inl a), some (.inl b), some (.inl c), some (.inl (e + 1)), v0, v1] [] h2 q := by
        intro zx v0 v1
        refine ih (e + 1) _ _ L1 h2 (by omega) (by omega) S2 k2 R2 (X.imp (fun l => ⟨fun ⟨u, p, y⟩ => ⟨u, by omega, y⟩, fun ⟨u, p, y⟩ => ⟨u, by
          have : u ≠ e := fun e => zx (by rw [← e]; exact y.1)
          omega, y⟩⟩))
      refine p_iload 223 rfl rfl rfl ?_
      refine p_iload 225 rfl rfl rfl ?_
      refine p_const 226 rfl rfl ?_
      refine p_ic_le 229 234 rfl rfl rfl (fun c1 => ?_) (fun c1 => ?_)
      · skip
        refine p_const 235 rfl rfl ?_
        refine p_ic_gt_f 238 rfl rfl (by omega) ?_
        refine p_aload 239 rfl rfl rfl ?_
        refine p_getfi (j := 52) (z := (L1.length : Int)) 242 rfl rfl rfl (tg_66 S2) rfl r1 ?_
        refine p_iload 243 rfl rfl rfl ?_
        refine p_ic_ge 246 358 rfl rfl rfl (fun c2 => ?_) (fun c2 => ?_)
        · skip
          -- leaf 1: loop 358 [some (.inr (.inr 66)), some (.inl w), some (.inl dm), some (.inl most), some (.inl (rl w)), some (.inl a), some (.inl b), some (.inl c), some (.inl e), w0, w1] st=[] h=h2 
          first | (exfalso; omega) | exact KD _ _ _ L1 h2 S2 k2 R2 (full (by omega)) | exact skip (fun y => by rcases y with y | y; exact absurd ((MB_congr kB _ _ _).2 y.2.2) (by assumption); omega) _ _ | (have zx : ZS h dm w 3 e := (by first | exact Or.inr ⟨by omega, by omega⟩ | exact Or.inl ⟨by omega, by omega, (MB_congr kB _ _ _).1 (by assumption)⟩); first | exact se_v C0 hl za zb zc zx S2 k2 R2 _ _ (step zx))
        · skip
          refine p_iload 248 rfl rfl rfl ?_
          refine p_const 249 rfl rfl ?_
          refine p_ic_le 252 266 rfl rfl rfl (fun c3 => ?_) (fun c3 => ?_)
          · skip
            -- leaf 2: loop 266 [some (.inr (.inr 66)), some (.inl w), some (.inl dm), some (.inl most), some (.inl (rl w)), some (.inl a), some (.inl b), some (.inl c), some (.inl e), w0, w1] st=[] h=h2 
            first | (exfalso; omega) | exact KD _ _ _ L1 h2 S2 k2 R2 (full (by omega)) | exact skip (fun y => by rcases y with y | y; exact absurd ((MB_congr kB _ _ _).2 y.2.2) (by assumption); omega) _ _ | (have zx : ZS h dm w 3 e := (by first | exact Or.inr ⟨by omega, by omega⟩ | exact Or.inl ⟨by omega, by omega, (MB_congr kB _ _ _).1 (by assumption)⟩); first | exact se_v C0 hl za zb zc zx S2 k2 R2 _ _ (step zx))
          · skip
            refine p_aload 253 rfl rfl rfl ?_
            refine p_const 254 rfl rfl ?_
            refine p_iload 256 rfl rfl rfl ?_
            refine p_iload 257 rfl rfl rfl ?_
            refine p_callv (le := [some (.inr (.inr 66)), some (.inl 3), some (.inl e), some (.inl dm), none]) (as := [.inr (.inr 66), .inl 3, .inl e, .inl dm]) (rest := []) 260 0 0 0 0 rfl rfl (Nat.le_of_ble_eq_true rfl) rfl (Nat.le_of_ble_eq_true rfl) rfl rfl (Nat.le_of_ble_eq_true rfl) rfl (Nat.le_of_ble_eq_true rfl) rfl (Nat.le_refl _) (Nat.le_refl _) rfl rfl (tg_66 S2) ?_
            refine m_mayBe S2 3 e dm F2 (hy (by omega)) (by omega) (by omega) (gy (by omega)).1 (gy (by omega)).2 (by omega) (by omega) (fun c4 => ?_) (fun c4 => ?_)
            · show Wp (d + 4) 0 0 M_X12_sees 260 [some (.inr (.inr 66)), some (.inl w), some (.inl dm), some (.inl most), some (.inl (rl w)), some (.inl a), some (.inl b), some (.inl c), some (.inl e), w0, w1] [.inl 1] h2 _
              refine p_if_ne_t 266 rfl rfl (by decide) ?_
              -- leaf 3: loop 266 [some (.inr (.inr 66)), some (.inl w), some (.inl dm), some (.inl most), some (.inl (rl w)), some (.inl a), some (.inl b), some (.inl c), some (.inl e), w0, w1] st=[] h=h2 
              first | (exfalso; omega) | exact KD _ _ _ L1 h2 S2 k2 R2 (full (by omega)) | exact skip (fun y => by rcases y with y | y; exact absurd ((MB_congr kB _ _ _).2 y.2.2) (by assumption); omega) _ _ | (have zx : ZS h dm w 3 e := (by first | exact Or.inr ⟨by omega, by omega⟩ | exact Or.inl ⟨by omega, by omega, (MB_congr kB _ _ _).1 (by assumption)⟩); first | exact se_v C0 hl za zb zc zx S2 k2 R2 _ _ (step zx))
            · show Wp (d + 4) 0 0 M_X12_sees 260 [some (.inr (.inr 66)), some (.inl w), some (.inl dm), some (.inl most), some (.inl (rl w)), some (.inl a), some (.inl b), some (.inl c), some (.inl e), w0, w1] [.inl 0] h2 _
              refine p_if_ne_f 263 rfl rfl (by decide) ?_
              refine p_goto 352 rfl rfl ?_
              refine p_iinc (y := e + 1) (ls' := [some (.inr (.inr 66)), some (.inl w), some (.inl dm), some (.inl most), some (.inl (rl w)), some (.inl a), some (.inl b), some (.inl c), some (.inl (e + 1)), w0, w1]) 355 rfl rfl rfl (w32_id ⟨(by omega), (by omega)⟩) rfl ?_
              refine p_goto 221 rfl rfl ?_
              -- leaf 4: loop 221 [some (.inr (.inr 66)), some (.inl w), some (.inl dm), some (.inl most), some (.inl (rl w)), some (.inl a), some (.inl b), some (.inl c), some (.inl (e + 1)), w0, w1] st=[] h=h2 
              first | (exfalso; omega) | exact KD _ _ _ L1 h2 S2 k2 R2 (full (by omega)) | exact skip (fun y => by rcases y with y | y; exact absurd ((MB_congr kB _ _ _).2 y.2.2) (by assumption); omega) _ _ | (have zx : ZS h dm w 3 e := (by first | exact Or.inr ⟨by omega, by omega⟩ | exact Or.inl ⟨by omega, by omega, (MB_congr kB _ _ _).1 (by assumption)⟩); first | exact se_v C0 hl za zb zc zx S2 k2 R2 _ _ (step zx))
      · skip
        refine p_const 231 rfl rfl ?_
        refine p_goto 235 rfl rfl ?_
        refine p_ic_gt_f 238 rfl rfl (by omega) ?_
        refine p_aload 239 rfl rfl rfl ?_
        refine p_getfi (j := 52) (z := (L1.length : Int)) 242 rfl rfl rfl (tg_66 S2) rfl r1 ?_
        refine p_iload 243 rfl rfl rfl ?_
        refine p_ic_ge 246 358 rfl rfl rfl (fun c5 => ?_) (fun c5 => ?_)
        · skip
          -- leaf 5: loop 358 [some (.inr (.inr 66)), some (.inl w), some (.inl dm), some (.inl most), some (.inl (rl w)), some (.inl a), some (.inl b), some (.inl c), some (.inl e), w0, w1] st=[] h=h2 
          first | (exfalso; omega) | exact KD _ _ _ L1 h2 S2 k2 R2 (full (by omega)) | exact skip (fun y => by rcases y with y | y; exact absurd ((MB_congr kB _ _ _).2 y.2.2) (by assumption); omega) _ _ | (have zx : ZS h dm w 3 e := (by first | exact Or.inr ⟨by omega, by omega⟩ | exact Or.inl ⟨by omega, by omega, (MB_congr kB _ _ _).1 (by assumption)⟩); first | exact se_v C0 hl za zb zc zx S2 k2 R2 _ _ (step zx))
        · skip
          refine p_iload 248 rfl rfl rfl ?_
          refine p_const 249 rfl rfl ?_
          refine p_ic_le 252 266 rfl rfl rfl (fun c6 => ?_) (fun c6 => ?_)
          · skip
            -- leaf 6: loop 266 [some (.inr (.inr 66)), some (.inl w), some (.inl dm), some (.inl most), some (.inl (rl w)), some (.inl a), some (.inl b), some (.inl c), some (.inl e), w0, w1] st=[] h=h2 
            first | (exfalso; omega) | exact KD _ _ _ L1 h2 S2 k2 R2 (full (by omega)) | exact skip (fun y => by rcases y with y | y; exact absurd ((MB_congr kB _ _ _).2 y.2.2) (by assumption); omega) _ _ | (have zx : ZS h dm w 3 e := (by first | exact Or.inr ⟨by omega, by omega⟩ | exact Or.inl ⟨by omega, by omega, (MB_congr kB _ _ _).1 (by assumption)⟩); first | exact se_v C0 hl za zb zc zx S2 k2 R2 _ _ (step zx))
          · skip
            refine p_aload 253 rfl rfl rfl ?_
            refine p_const 254 rfl rfl ?_
            refine p_iload 256 rfl rfl rfl ?_
            refine p_iload 257 rfl rfl rfl ?_
            refine p_callv (le := [some (.inr (.inr 66)), some (.inl 3), some (.inl e), some (.inl dm), none]) (as := [.inr (.inr 66), .inl 3, .inl e, .inl dm]) (rest := []) 260 0 0 0 0 rfl rfl (Nat.le_of_ble_eq_true rfl) rfl (Nat.le_of_ble_eq_true rfl) rfl rfl (Nat.le_of_ble_eq_true rfl) rfl (Nat.le_of_ble_eq_true rfl) rfl (Nat.le_refl _) (Nat.le_refl _) rfl rfl (tg_66 S2) ?_
            refine m_mayBe S2 3 e dm F2 (hy (by omega)) (by omega) (by omega) (gy (by omega)).1 (gy (by omega)).2 (by omega) (by omega) (fun c7 => ?_) (fun c7 => ?_)
            · show Wp (d + 4) 0 0 M_X12_sees 260 [some (.inr (.inr 66)), some (.inl w), some (.inl dm), some (.inl most), some (.inl (rl w)), some (.inl a), some (.inl b), some (.inl c), some (.inl e), w0, w1] [.inl 1] h2 _
              refine p_if_ne_t 266 rfl rfl (by decide) ?_
              -- leaf 7: loop 266 [some (.inr (.inr 66)), some (.inl w), some (.inl dm), some (.inl most), some (.inl (rl w)), some (.inl a), some (.inl b), some (.inl c), some (.inl e), w0, w1] st=[] h=h2 
              first | (exfalso; omega) | exact KD _ _ _ L1 h2 S2 k2 R2 (full (by omega)) | exact skip (fun y => by rcases y with y | y; exact absurd ((MB_congr kB _ _ _).2 y.2.2) (by assumption); omega) _ _ | (have zx : ZS h dm w 3 e := (by first | exact Or.inr ⟨by omega, by omega⟩ | exact Or.inl ⟨by omega, by omega, (MB_congr kB _ _ _).1 (by assumption)⟩); first | exact se_v C0 hl za zb zc zx S2 k2 R2 _ _ (step zx))
            · show Wp (d + 4) 0 0 M_X12_sees 260 [some (.inr (.inr 66)), some (.inl w), some (.inl dm), some (.inl most), some (.inl (rl w)), some (.inl a), some (.inl b), some (.inl c), some (.inl e), w0, w1] [.inl 0] h2 _
              refine p_if_ne_f 263 rfl rfl (by decide) ?_
              refine p_goto 352 rfl rfl ?_
              refine p_iinc (y := e + 1) (ls' := [some (.inr (.inr 66)), some (.inl w), some (.inl dm), some (.inl most), some (.inl (rl w)), some (.inl a), some (.inl b), some (.inl c), some (.inl (e + 1)), w0, w1]) 355 rfl rfl rfl (w32_id ⟨(by omega), (by omega)⟩) rfl ?_
              refine p_goto 221 rfl rfl ?_
              -- leaf 8: loop 221 [some (.inr (.inr 66)), some (.inl w), some (.inl dm), some (.inl most), some (.inl (rl w)), some (.inl a), some (.inl b), some (.inl c), some (.inl (e + 1)), w0, w1] st=[] h=h2 
              first | (exfalso; omega) | exact KD _ _ _ L1 h2 S2 k2 R2 (full (by omega)) | exact skip (fun y => by rcases y with y | y; exact absurd ((MB_congr kB _ _ _).2 y.2.2) (by assumption); omega) _ _ | (have zx : ZS h dm w 3 e := (by first | exact Or.inr ⟨by omega, by omega⟩ | exact Or.inl ⟨by omega, by omega, (MB_congr kB _ _ _).1 (by assumption)⟩); first | exact se_v C0 hl za zb zc zx S2 k2 R2 _ _ (step zx))
  exact J (hi + 1 - lo).toNat lo w0 w1 L0 h1 (by omega) (Int.le_refl _) S1 k1 R1 ((Ext.refl R1.2.1 R1.2.2.1).imp (fun l => ⟨False.elim, fun ⟨u, p, y⟩ => by omega⟩))
set_option maxRecDepth 4000 in
theorem se_c (C : SC h w k s t z) (hl : most = lim) {a b : Int} (za : ZS h dm w 0 a) (zb : ZS h dm w 1 b)  {lo hi : Int} (hlo : (2 < rl w ∧ lo = 1 ∧ hi = 29) ∨ (rl w ≤ 2 ∧ lo = 0 ∧ hi = 0))
    {L0 : List (List Int)} {h1 : PH} (S1 : Shape h1) (k1 : Keep inA h h1) (R1 : RowsM h1 L0 lim) (w0 w1 w2 : Option PV)
    (KD : ∀ (x0 x1 x2 x3 : Option PV) L' h', Shape h' → Keep inA h h' → RowsM h' L' lim → Ext L0 L' lim (Q2 h (Ws h k s t z) dm w a b) → Wp (d + 4) 0 0 M_X12_sees 364 [some (.inr (.inr 66)), some (.inl w), some (.inl dm), some (.inl most), some (.inl (rl w)), some (.inl a), some (.inl b), x0, x1, x2, x3] [] h' q) :
    Wp (d + 4) 0 0 M_X12_sees 163 [some (.inr (.inr 66)), some (.inl w), some (.inl dm), some (.inl most), some (.inl (rl w)), some (.inl a), some (.inl b), some (.inl lo), w0, w1, w2] [] h1 q := by
  have C0 := C
  obtain ⟨C1, C2, C3, C4, C5, C6, C7⟩ := C
  have wp := C2.1
  have J : ∀ (n : Nat) (c : Int) (w0 w1 w2 : Option PV) (L1 : List (List Int)) (h2 : PH), c + n = hi + 1 → lo ≤ c → Shape h2 → Keep inA h h2 → RowsM h2 L1 lim → Ext L0 L1 lim (fun l => ∃ u, (lo ≤ u ∧ u < c) ∧ ZS h dm w 2 u ∧ Q3 h (Ws h k s t z) dm w a b u l) →
      Wp (d + 4) 0 0 M_X12_sees 163 [some (.inr (.inr 66)), some (.inl w), some (.inl dm), some (.inl most), some (.inl (rl w)), some (.inl a), some (.inl b), some (.inl c), w0, w1, w2] [] h2 q := by
    intro n
    induction n with
    | zero =>
      intro c w0 w1 w2 L1 h2 hn e0 S2 k2 R2 X
      have fin : Ext L0 L1 lim (Q2 h (Ws h k s t z) dm w a b) := X.imp (fun l => ⟨fun ⟨u, p, y⟩ => ⟨u, y⟩, fun ⟨u, y⟩ => ⟨u, by have := y.1; unfold ZS at this; omega, y⟩⟩)
      refine p_iload 165 rfl rfl rfl ?_
      refine p_iload 167 rfl rfl rfl ?_
      refine p_const 168 rfl rfl ?_
      refine p_ic_le 171 176 rfl rfl rfl (fun c1 => ?_) (fun c1 => ?_)
      · skip
        refine p_const 177 rfl rfl ?_
        refine p_ic_gt_t 364 rfl rfl (by omega) ?_
        -- leaf 1: loop 364 [some (.inr (.inr 66)), some (.inl w), some (.inl dm), some (.inl most), some (.inl (rl w)), some (.inl a), some (.inl b), some (.inl c), w0, w1, w2] st=[] h=h2 
        exact KD _ _ _ _ L1 h2 S2 k2 R2 fin
      · skip
        refine p_const 173 rfl rfl ?_
        refine p_goto 177 rfl rfl ?_
        refine p_ic_gt_t 364 rfl rfl (by omega) ?_
        -- leaf 2: loop 364 [some (.inr (.inr 66)), some (.inl w), some (.inl dm), some (.inl most), some (.inl (rl w)), some (.inl a), some (.inl b), some (.inl c), w0, w1, w2] st=[] h=h2 
        exact KD _ _ _ _ L1 h2 S2 k2 R2 fin
    | succ n ih =>
      intro c w0 w1 w2 L1 h2 hn e0 S2 k2 R2 X
      have r1 := R2.1
      have kB := k2.wide inA_bkB
      have F2 := C7.kp kB
      have hy : 2 < rl w → gv h2 105 2 = sg w (rl w) 2 := fun y => (k2.1 105 2 rfl).trans (C1 2 (by decide) y)
      have gy : 2 < rl w → 1 ≤ sg w (rl w) 2 ∧ sg w (rl w) 2 ≤ 29 := fun y => ⟨(C2.2 2 (by decide) y).1, (C2.2 2 (by decide) y).2.1⟩
      have full : lim ≤ L1.length → Ext L0 L1 lim (Q2 h (Ws h k s t z) dm w a b) := fun f => X.full f (fun l ⟨u, p, y⟩ => ⟨u, y⟩)
      have step : ZS h dm w 2 c → ∀ (v0 v1 v2 : Option PV) (L' : List (List Int)) (h' : PH), Shape h' → Keep inA h h' → RowsM h' L' lim → Ext L1 L' lim (Q3 h (Ws h k s t z) dm w a b c) → Wp (d + 4) 0 0 M_X12_sees 358 [some (.inr (.inr 66)), some (.inl w), some (.inl dm), some (.inl most), some (.inl (rl w)), some (.inl a), some (.inl b), some (.inl c), v0, v1, v2] [] h' q := by
        intro zx v0 v1 v2 L' h' S' k' R' X'
        refine p_iinc (y := c + 1) (ls' := [some (.inr (.inr 66)), some (.inl w), some (.inl dm), some (.inl most), some (.inl (rl w)), some (.inl a), some (.inl b), some (.inl (c + 1)), v0, v1, v2]) 361 rfl rfl rfl (w32_id ⟨(by omega), (by omega)⟩) rfl ?_
        refine p_goto 163 rfl rfl ?_
        -- leaf 1: loop 163 [some (.inr (.inr 66)), some (.inl w), some (.inl dm), some (.inl most), some (.inl (rl w)), some (.inl a), some (.inl b), some (.inl (c + 1)), v0, v1, v2] st=[] h=h' 
        refine ih (c + 1) _ _ _ L' h' (by omega) (by omega) S' k' R' ((X.trans X').imp (fun l => ⟨?_, ?_⟩))
        · rintro (⟨u, p, y⟩ | y)
          · exact ⟨u, by omega, y⟩
          · exact ⟨c, by omega, zx, y⟩
        · rintro ⟨u, p, y⟩
          by_cases e : u = c
          · rw [e] at y; exact Or.inr y.2
          · exact Or.inl ⟨u, by omega, y⟩
      have skip : ¬ ZS h dm w 2 c → ∀ (v0 v1 v2 : Option PV), Wp (d + 4) 0 0 M_X12_sees 163 [some (.inr (.inr 66)), some (.inl w), some (.inl dm), some (.inl most), some (.inl (rl w)), some (.inl a), some (.inl b), some (.inl (c + 1)), v0, v1, v2] [] h2 q := by
        intro zx v0 v1 v2
        refine ih (c + 1) _ _ _ L1 h2 (by omega) (by omega) S2 k2 R2 (X.imp (fun l => ⟨fun ⟨u, p, y⟩ => ⟨u, by omega, y⟩, fun ⟨u, p, y⟩ => ⟨u, by
          have : u ≠ c := fun e => zx (by rw [← e]; exact y.1)
          omega, y⟩⟩))
      refine p_iload 165 rfl rfl rfl ?_
      refine p_iload 167 rfl rfl rfl ?_
      refine p_const 168 rfl rfl ?_
      refine p_ic_le 171 176 rfl rfl rfl (fun c1 => ?_) (fun c1 => ?_)
      · skip
        refine p_const 177 rfl rfl ?_
        refine p_ic_gt_f 180 rfl rfl (by omega) ?_
        refine p_aload 181 rfl rfl rfl ?_
        refine p_getfi (j := 52) (z := (L1.length : Int)) 184 rfl rfl rfl (tg_66 S2) rfl r1 ?_
        refine p_iload 185 rfl rfl rfl ?_
        refine p_ic_ge 188 364 rfl rfl rfl (fun c2 => ?_) (fun c2 => ?_)
        · skip
          -- leaf 1: loop 364 [some (.inr (.inr 66)), some (.inl w), some (.inl dm), some (.inl most), some (.inl (rl w)), some (.inl a), some (.inl b), some (.inl c), w0, w1, w2] st=[] h=h2 
          first | (exfalso; omega) | exact KD _ _ _ _ L1 h2 S2 k2 R2 (full (by omega)) | exact skip (fun y => by rcases y with y | y; exact absurd ((MB_congr kB _ _ _).2 y.2.2) (by assumption); omega) _ _ _ | (have zx : ZS h dm w 2 c := (by first | exact Or.inr ⟨by omega, by omega⟩ | exact Or.inl ⟨by omega, by omega, (MB_congr kB _ _ _).1 (by assumption)⟩); first | exact se_e C0 hl za zb zx (lo := 1) (hi := 29) (by omega) S2 k2 R2 _ _ (step zx) | exact se_e C0 hl za zb zx (lo := 0) (hi := 0) (by omega) S2 k2 R2 _ _ (step zx))
        · skip
          refine p_iload 190 rfl rfl rfl ?_
          refine p_const 191 rfl rfl ?_
          refine p_ic_le 194 208 rfl rfl rfl (fun c3 => ?_) (fun c3 => ?_)
          · skip
            refine p_iload 210 rfl rfl rfl ?_
            refine p_const 211 rfl rfl ?_
            refine p_ic_le 214 218 rfl rfl rfl (fun c4 => ?_) (fun c4 => ?_)
            · skip
              refine p_const 219 rfl rfl ?_
              refine p_istore (ls' := [some (.inr (.inr 66)), some (.inl w), some (.inl dm), some (.inl most), some (.inl (rl w)), some (.inl a), some (.inl b), some (.inl c), some (.inl 0), w1, w2]) 221 rfl rfl (Nat.le_of_ble_eq_true rfl) rfl ?_
              -- leaf 2: loop 221 [some (.inr (.inr 66)), some (.inl w), some (.inl dm), some (.inl most), some (.inl (rl w)), some (.inl a), some (.inl b), some (.inl c), some (.inl 0), w1, w2] st=[] h=h2 
              first | (exfalso; omega) | exact KD _ _ _ _ L1 h2 S2 k2 R2 (full (by omega)) | exact skip (fun y => by rcases y with y | y; exact absurd ((MB_congr kB _ _ _).2 y.2.2) (by assumption); omega) _ _ _ | (have zx : ZS h dm w 2 c := (by first | exact Or.inr ⟨by omega, by omega⟩ | exact Or.inl ⟨by omega, by omega, (MB_congr kB _ _ _).1 (by assumption)⟩); first | exact se_e C0 hl za zb zx (lo := 1) (hi := 29) (by omega) S2 k2 R2 _ _ (step zx) | exact se_e C0 hl za zb zx (lo := 0) (hi := 0) (by omega) S2 k2 R2 _ _ (step zx))
            · skip
              refine p_const 215 rfl rfl ?_
              refine p_goto 219 rfl rfl ?_
              refine p_istore (ls' := [some (.inr (.inr 66)), some (.inl w), some (.inl dm), some (.inl most), some (.inl (rl w)), some (.inl a), some (.inl b), some (.inl c), some (.inl 1), w1, w2]) 221 rfl rfl (Nat.le_of_ble_eq_true rfl) rfl ?_
              -- leaf 3: loop 221 [some (.inr (.inr 66)), some (.inl w), some (.inl dm), some (.inl most), some (.inl (rl w)), some (.inl a), some (.inl b), some (.inl c), some (.inl 1), w1, w2] st=[] h=h2 
              first | (exfalso; omega) | exact KD _ _ _ _ L1 h2 S2 k2 R2 (full (by omega)) | exact skip (fun y => by rcases y with y | y; exact absurd ((MB_congr kB _ _ _).2 y.2.2) (by assumption); omega) _ _ _ | (have zx : ZS h dm w 2 c := (by first | exact Or.inr ⟨by omega, by omega⟩ | exact Or.inl ⟨by omega, by omega, (MB_congr kB _ _ _).1 (by assumption)⟩); first | exact se_e C0 hl za zb zx (lo := 1) (hi := 29) (by omega) S2 k2 R2 _ _ (step zx) | exact se_e C0 hl za zb zx (lo := 0) (hi := 0) (by omega) S2 k2 R2 _ _ (step zx))
          · skip
            refine p_aload 195 rfl rfl rfl ?_
            refine p_const 196 rfl rfl ?_
            refine p_iload 198 rfl rfl rfl ?_
            refine p_iload 199 rfl rfl rfl ?_
            refine p_callv (le := [some (.inr (.inr 66)), some (.inl 2), some (.inl c), some (.inl dm), none]) (as := [.inr (.inr 66), .inl 2, .inl c, .inl dm]) (rest := []) 202 0 0 0 0 rfl rfl (Nat.le_of_ble_eq_true rfl) rfl (Nat.le_of_ble_eq_true rfl) rfl rfl (Nat.le_of_ble_eq_true rfl) rfl (Nat.le_of_ble_eq_true rfl) rfl (Nat.le_refl _) (Nat.le_refl _) rfl rfl (tg_66 S2) ?_
            refine m_mayBe S2 2 c dm F2 (hy (by omega)) (by omega) (by omega) (gy (by omega)).1 (gy (by omega)).2 (by omega) (by omega) (fun c5 => ?_) (fun c5 => ?_)
            · show Wp (d + 4) 0 0 M_X12_sees 202 [some (.inr (.inr 66)), some (.inl w), some (.inl dm), some (.inl most), some (.inl (rl w)), some (.inl a), some (.inl b), some (.inl c), w0, w1, w2] [.inl 1] h2 _
              refine p_if_ne_t 208 rfl rfl (by decide) ?_
              refine p_iload 210 rfl rfl rfl ?_
              refine p_const 211 rfl rfl ?_
              refine p_ic_le 214 218 rfl rfl rfl (fun c6 => ?_) (fun c6 => ?_)
              · skip
                refine p_const 219 rfl rfl ?_
                refine p_istore (ls' := [some (.inr (.inr 66)), some (.inl w), some (.inl dm), some (.inl most), some (.inl (rl w)), some (.inl a), some (.inl b), some (.inl c), some (.inl 0), w1, w2]) 221 rfl rfl (Nat.le_of_ble_eq_true rfl) rfl ?_
                -- leaf 4: loop 221 [some (.inr (.inr 66)), some (.inl w), some (.inl dm), some (.inl most), some (.inl (rl w)), some (.inl a), some (.inl b), some (.inl c), some (.inl 0), w1, w2] st=[] h=h2 
                first | (exfalso; omega) | exact KD _ _ _ _ L1 h2 S2 k2 R2 (full (by omega)) | exact skip (fun y => by rcases y with y | y; exact absurd ((MB_congr kB _ _ _).2 y.2.2) (by assumption); omega) _ _ _ | (have zx : ZS h dm w 2 c := (by first | exact Or.inr ⟨by omega, by omega⟩ | exact Or.inl ⟨by omega, by omega, (MB_congr kB _ _ _).1 (by assumption)⟩); first | exact se_e C0 hl za zb zx (lo := 1) (hi := 29) (by omega) S2 k2 R2 _ _ (step zx) | exact se_e C0 hl za zb zx (lo := 0) (hi := 0) (by omega) S2 k2 R2 _ _ (step zx))
              · skip
                refine p_const 215 rfl rfl ?_
                refine p_goto 219 rfl rfl ?_
                refine p_istore (ls' := [some (.inr (.inr 66)), some (.inl w), some (.inl dm), some (.inl most), some (.inl (rl w)), some (.inl a), some (.inl b), some (.inl c), some (.inl 1), w1, w2]) 221 rfl rfl (Nat.le_of_ble_eq_true rfl) rfl ?_
                -- leaf 5: loop 221 [some (.inr (.inr 66)), some (.inl w), some (.inl dm), some (.inl most), some (.inl (rl w)), some (.inl a), some (.inl b), some (.inl c), some (.inl 1), w1, w2] st=[] h=h2 
                first | (exfalso; omega) | exact KD _ _ _ _ L1 h2 S2 k2 R2 (full (by omega)) | exact skip (fun y => by rcases y with y | y; exact absurd ((MB_congr kB _ _ _).2 y.2.2) (by assumption); omega) _ _ _ | (have zx : ZS h dm w 2 c := (by first | exact Or.inr ⟨by omega, by omega⟩ | exact Or.inl ⟨by omega, by omega, (MB_congr kB _ _ _).1 (by assumption)⟩); first | exact se_e C0 hl za zb zx (lo := 1) (hi := 29) (by omega) S2 k2 R2 _ _ (step zx) | exact se_e C0 hl za zb zx (lo := 0) (hi := 0) (by omega) S2 k2 R2 _ _ (step zx))
            · show Wp (d + 4) 0 0 M_X12_sees 202 [some (.inr (.inr 66)), some (.inl w), some (.inl dm), some (.inl most), some (.inl (rl w)), some (.inl a), some (.inl b), some (.inl c), w0, w1, w2] [.inl 0] h2 _
              refine p_if_ne_f 205 rfl rfl (by decide) ?_
              refine p_goto 358 rfl rfl ?_
              refine p_iinc (y := c + 1) (ls' := [some (.inr (.inr 66)), some (.inl w), some (.inl dm), some (.inl most), some (.inl (rl w)), some (.inl a), some (.inl b), some (.inl (c + 1)), w0, w1, w2]) 361 rfl rfl rfl (w32_id ⟨(by omega), (by omega)⟩) rfl ?_
              refine p_goto 163 rfl rfl ?_
              -- leaf 6: loop 163 [some (.inr (.inr 66)), some (.inl w), some (.inl dm), some (.inl most), some (.inl (rl w)), some (.inl a), some (.inl b), some (.inl (c + 1)), w0, w1, w2] st=[] h=h2 
              first | (exfalso; omega) | exact KD _ _ _ _ L1 h2 S2 k2 R2 (full (by omega)) | exact skip (fun y => by rcases y with y | y; exact absurd ((MB_congr kB _ _ _).2 y.2.2) (by assumption); omega) _ _ _ | (have zx : ZS h dm w 2 c := (by first | exact Or.inr ⟨by omega, by omega⟩ | exact Or.inl ⟨by omega, by omega, (MB_congr kB _ _ _).1 (by assumption)⟩); first | exact se_e C0 hl za zb zx (lo := 1) (hi := 29) (by omega) S2 k2 R2 _ _ (step zx) | exact se_e C0 hl za zb zx (lo := 0) (hi := 0) (by omega) S2 k2 R2 _ _ (step zx))
      · skip
        refine p_const 173 rfl rfl ?_
        refine p_goto 177 rfl rfl ?_
        refine p_ic_gt_f 180 rfl rfl (by omega) ?_
        refine p_aload 181 rfl rfl rfl ?_
        refine p_getfi (j := 52) (z := (L1.length : Int)) 184 rfl rfl rfl (tg_66 S2) rfl r1 ?_
        refine p_iload 185 rfl rfl rfl ?_
        refine p_ic_ge 188 364 rfl rfl rfl (fun c7 => ?_) (fun c7 => ?_)
        · skip
          -- leaf 7: loop 364 [some (.inr (.inr 66)), some (.inl w), some (.inl dm), some (.inl most), some (.inl (rl w)), some (.inl a), some (.inl b), some (.inl c), w0, w1, w2] st=[] h=h2 
          first | (exfalso; omega) | exact KD _ _ _ _ L1 h2 S2 k2 R2 (full (by omega)) | exact skip (fun y => by rcases y with y | y; exact absurd ((MB_congr kB _ _ _).2 y.2.2) (by assumption); omega) _ _ _ | (have zx : ZS h dm w 2 c := (by first | exact Or.inr ⟨by omega, by omega⟩ | exact Or.inl ⟨by omega, by omega, (MB_congr kB _ _ _).1 (by assumption)⟩); first | exact se_e C0 hl za zb zx (lo := 1) (hi := 29) (by omega) S2 k2 R2 _ _ (step zx) | exact se_e C0 hl za zb zx (lo := 0) (hi := 0) (by omega) S2 k2 R2 _ _ (step zx))
        · skip
          refine p_iload 190 rfl rfl rfl ?_
          refine p_const 191 rfl rfl ?_
          refine p_ic_le 194 208 rfl rfl rfl (fun c8 => ?_) (fun c8 => ?_)
          · skip
            refine p_iload 210 rfl rfl rfl ?_
            refine p_const 211 rfl rfl ?_
            refine p_ic_le 214 218 rfl rfl rfl (fun c9 => ?_) (fun c9 => ?_)
            · skip
              refine p_const 219 rfl rfl ?_
              refine p_istore (ls' := [some (.inr (.inr 66)), some (.inl w), some (.inl dm), some (.inl most), some (.inl (rl w)), some (.inl a), some (.inl b), some (.inl c), some (.inl 0), w1, w2]) 221 rfl rfl (Nat.le_of_ble_eq_true rfl) rfl ?_
              -- leaf 8: loop 221 [some (.inr (.inr 66)), some (.inl w), some (.inl dm), some (.inl most), some (.inl (rl w)), some (.inl a), some (.inl b), some (.inl c), some (.inl 0), w1, w2] st=[] h=h2 
              first | (exfalso; omega) | exact KD _ _ _ _ L1 h2 S2 k2 R2 (full (by omega)) | exact skip (fun y => by rcases y with y | y; exact absurd ((MB_congr kB _ _ _).2 y.2.2) (by assumption); omega) _ _ _ | (have zx : ZS h dm w 2 c := (by first | exact Or.inr ⟨by omega, by omega⟩ | exact Or.inl ⟨by omega, by omega, (MB_congr kB _ _ _).1 (by assumption)⟩); first | exact se_e C0 hl za zb zx (lo := 1) (hi := 29) (by omega) S2 k2 R2 _ _ (step zx) | exact se_e C0 hl za zb zx (lo := 0) (hi := 0) (by omega) S2 k2 R2 _ _ (step zx))
            · skip
              refine p_const 215 rfl rfl ?_
              refine p_goto 219 rfl rfl ?_
              refine p_istore (ls' := [some (.inr (.inr 66)), some (.inl w), some (.inl dm), some (.inl most), some (.inl (rl w)), some (.inl a), some (.inl b), some (.inl c), some (.inl 1), w1, w2]) 221 rfl rfl (Nat.le_of_ble_eq_true rfl) rfl ?_
              -- leaf 9: loop 221 [some (.inr (.inr 66)), some (.inl w), some (.inl dm), some (.inl most), some (.inl (rl w)), some (.inl a), some (.inl b), some (.inl c), some (.inl 1), w1, w2] st=[] h=h2 
              first | (exfalso; omega) | exact KD _ _ _ _ L1 h2 S2 k2 R2 (full (by omega)) | exact skip (fun y => by rcases y with y | y; exact absurd ((MB_congr kB _ _ _).2 y.2.2) (by assumption); omega) _ _ _ | (have zx : ZS h dm w 2 c := (by first | exact Or.inr ⟨by omega, by omega⟩ | exact Or.inl ⟨by omega, by omega, (MB_congr kB _ _ _).1 (by assumption)⟩); first | exact se_e C0 hl za zb zx (lo := 1) (hi := 29) (by omega) S2 k2 R2 _ _ (step zx) | exact se_e C0 hl za zb zx (lo := 0) (hi := 0) (by omega) S2 k2 R2 _ _ (step zx))
          · skip
            refine p_aload 195 rfl rfl rfl ?_
            refine p_const 196 rfl rfl ?_
            refine p_iload 198 rfl rfl rfl ?_
            refine p_iload 199 rfl rfl rfl ?_
            refine p_callv (le := [some (.inr (.inr 66)), some (.inl 2), some (.inl c), some (.inl dm), none]) (as := [.inr (.inr 66), .inl 2, .inl c, .inl dm]) (rest := []) 202 0 0 0 0 rfl rfl (Nat.le_of_ble_eq_true rfl) rfl (Nat.le_of_ble_eq_true rfl) rfl rfl (Nat.le_of_ble_eq_true rfl) rfl (Nat.le_of_ble_eq_true rfl) rfl (Nat.le_refl _) (Nat.le_refl _) rfl rfl (tg_66 S2) ?_
            refine m_mayBe S2 2 c dm F2 (hy (by omega)) (by omega) (by omega) (gy (by omega)).1 (gy (by omega)).2 (by omega) (by omega) (fun c10 => ?_) (fun c10 => ?_)
            · show Wp (d + 4) 0 0 M_X12_sees 202 [some (.inr (.inr 66)), some (.inl w), some (.inl dm), some (.inl most), some (.inl (rl w)), some (.inl a), some (.inl b), some (.inl c), w0, w1, w2] [.inl 1] h2 _
              refine p_if_ne_t 208 rfl rfl (by decide) ?_
              refine p_iload 210 rfl rfl rfl ?_
              refine p_const 211 rfl rfl ?_
              refine p_ic_le 214 218 rfl rfl rfl (fun c11 => ?_) (fun c11 => ?_)
              · skip
                refine p_const 219 rfl rfl ?_
                refine p_istore (ls' := [some (.inr (.inr 66)), some (.inl w), some (.inl dm), some (.inl most), some (.inl (rl w)), some (.inl a), some (.inl b), some (.inl c), some (.inl 0), w1, w2]) 221 rfl rfl (Nat.le_of_ble_eq_true rfl) rfl ?_
                -- leaf 10: loop 221 [some (.inr (.inr 66)), some (.inl w), some (.inl dm), some (.inl most), some (.inl (rl w)), some (.inl a), some (.inl b), some (.inl c), some (.inl 0), w1, w2] st=[] h=h2 
                first | (exfalso; omega) | exact KD _ _ _ _ L1 h2 S2 k2 R2 (full (by omega)) | exact skip (fun y => by rcases y with y | y; exact absurd ((MB_congr kB _ _ _).2 y.2.2) (by assumption); omega) _ _ _ | (have zx : ZS h dm w 2 c := (by first | exact Or.inr ⟨by omega, by omega⟩ | exact Or.inl ⟨by omega, by omega, (MB_congr kB _ _ _).1 (by assumption)⟩); first | exact se_e C0 hl za zb zx (lo := 1) (hi := 29) (by omega) S2 k2 R2 _ _ (step zx) | exact se_e C0 hl za zb zx (lo := 0) (hi := 0) (by omega) S2 k2 R2 _ _ (step zx))
              · skip
                refine p_const 215 rfl rfl ?_
                refine p_goto 219 rfl rfl ?_
                refine p_istore (ls' := [some (.inr (.inr 66)), some (.inl w), some (.inl dm), some (.inl most), some (.inl (rl w)), some (.inl a), some (.inl b), some (.inl c), some (.inl 1), w1, w2]) 221 rfl rfl (Nat.le_of_ble_eq_true rfl) rfl ?_
                -- leaf 11: loop 221 [some (.inr (.inr 66)), some (.inl w), some (.inl dm), some (.inl most), some (.inl (rl w)), some (.inl a), some (.inl b), some (.inl c), some (.inl 1), w1, w2] st=[] h=h2 
                first | (exfalso; omega) | exact KD _ _ _ _ L1 h2 S2 k2 R2 (full (by omega)) | exact skip (fun y => by rcases y with y | y; exact absurd ((MB_congr kB _ _ _).2 y.2.2) (by assumption); omega) _ _ _ | (have zx : ZS h dm w 2 c := (by first | exact Or.inr ⟨by omega, by omega⟩ | exact Or.inl ⟨by omega, by omega, (MB_congr kB _ _ _).1 (by assumption)⟩); first | exact se_e C0 hl za zb zx (lo := 1) (hi := 29) (by omega) S2 k2 R2 _ _ (step zx) | exact se_e C0 hl za zb zx (lo := 0) (hi := 0) (by omega) S2 k2 R2 _ _ (step zx))
            · show Wp (d + 4) 0 0 M_X12_sees 202 [some (.inr (.inr 66)), some (.inl w), some (.inl dm), some (.inl most), some (.inl (rl w)), some (.inl a), some (.inl b), some (.inl c), w0, w1, w2] [.inl 0] h2 _
              refine p_if_ne_f 205 rfl rfl (by decide) ?_
              refine p_goto 358 rfl rfl ?_
              refine p_iinc (y := c + 1) (ls' := [some (.inr (.inr 66)), some (.inl w), some (.inl dm), some (.inl most), some (.inl (rl w)), some (.inl a), some (.inl b), some (.inl (c + 1)), w0, w1, w2]) 361 rfl rfl rfl (w32_id ⟨(by omega), (by omega)⟩) rfl ?_
              refine p_goto 163 rfl rfl ?_
              -- leaf 12: loop 163 [some (.inr (.inr 66)), some (.inl w), some (.inl dm), some (.inl most), some (.inl (rl w)), some (.inl a), some (.inl b), some (.inl (c + 1)), w0, w1, w2] st=[] h=h2 
              first | (exfalso; omega) | exact KD _ _ _ _ L1 h2 S2 k2 R2 (full (by omega)) | exact skip (fun y => by rcases y with y | y; exact absurd ((MB_congr kB _ _ _).2 y.2.2) (by assumption); omega) _ _ _ | (have zx : ZS h dm w 2 c := (by first | exact Or.inr ⟨by omega, by omega⟩ | exact Or.inl ⟨by omega, by omega, (MB_congr kB _ _ _).1 (by assumption)⟩); first | exact se_e C0 hl za zb zx (lo := 1) (hi := 29) (by omega) S2 k2 R2 _ _ (step zx) | exact se_e C0 hl za zb zx (lo := 0) (hi := 0) (by omega) S2 k2 R2 _ _ (step zx))
  exact J (hi + 1 - lo).toNat lo w0 w1 w2 L0 h1 (by omega) (Int.le_refl _) S1 k1 R1 ((Ext.refl R1.2.1 R1.2.2.1).imp (fun l => ⟨False.elim, fun ⟨u, p, y⟩ => by omega⟩))
set_option maxRecDepth 4000 in
theorem se_b (C : SC h w k s t z) (hl : most = lim) {a : Int} (za : ZS h dm w 0 a)  {lo hi : Int} (hlo : (1 < rl w ∧ lo = 1 ∧ hi = 29) ∨ (rl w ≤ 1 ∧ lo = 0 ∧ hi = 0))
    {L0 : List (List Int)} {h1 : PH} (S1 : Shape h1) (k1 : Keep inA h h1) (R1 : RowsM h1 L0 lim) (w0 w1 w2 w3 : Option PV)
    (KD : ∀ (x0 x1 x2 x3 x4 : Option PV) L' h', Shape h' → Keep inA h h' → RowsM h' L' lim → Ext L0 L' lim (Q1 h (Ws h k s t z) dm w a) → Wp (d + 4) 0 0 M_X12_sees 370 [some (.inr (.inr 66)), some (.inl w), some (.inl dm), some (.inl most), some (.inl (rl w)), some (.inl a), x0, x1, x2, x3, x4] [] h' q) :
    Wp (d + 4) 0 0 M_X12_sees 105 [some (.inr (.inr 66)), some (.inl w), some (.inl dm), some (.inl most), some (.inl (rl w)), some (.inl a), some (.inl lo), w0, w1, w2, w3] [] h1 q := by
  have C0 := C
  obtain ⟨C1, C2, C3, C4, C5, C6, C7⟩ := C
  have wp := C2.1
  have J : ∀ (n : Nat) (b : Int) (w0 w1 w2 w3 : Option PV) (L1 : List (List Int)) (h2 : PH), b + n = hi + 1 → lo ≤ b → Shape h2 → Keep inA h h2 → RowsM h2 L1 lim → Ext L0 L1 lim (fun l => ∃ u, (lo ≤ u ∧ u < b) ∧ ZS h dm w 1 u ∧ Q2 h (Ws h k s t z) dm w a u l) →
      Wp (d + 4) 0 0 M_X12_sees 105 [some (.inr (.inr 66)), some (.inl w), some (.inl dm), some (.inl most), some (.inl (rl w)), some (.inl a), some (.inl b), w0, w1, w2, w3] [] h2 q := by
    intro n
    induction n with
    | zero =>
      intro b w0 w1 w2 w3 L1 h2 hn e0 S2 k2 R2 X
      have fin : Ext L0 L1 lim (Q1 h (Ws h k s t z) dm w a) := X.imp (fun l => ⟨fun ⟨u, p, y⟩ => ⟨u, y⟩, fun ⟨u, y⟩ => ⟨u, by have := y.1; unfold ZS at this; omega, y⟩⟩)
      refine p_iload 107 rfl rfl rfl ?_
      refine p_iload 109 rfl rfl rfl ?_
      refine p_const 110 rfl rfl ?_
      refine p_ic_le 113 118 rfl rfl rfl (fun c1 => ?_) (fun c1 => ?_)
      · skip
        refine p_const 119 rfl rfl ?_
        refine p_ic_gt_t 370 rfl rfl (by omega) ?_
        -- leaf 1: loop 370 [some (.inr (.inr 66)), some (.inl w), some (.inl dm), some (.inl most), some (.inl (rl w)), some (.inl a), some (.inl b), w0, w1, w2, w3] st=[] h=h2 
        exact KD _ _ _ _ _ L1 h2 S2 k2 R2 fin
      · skip
        refine p_const 115 rfl rfl ?_
        refine p_goto 119 rfl rfl ?_
        refine p_ic_gt_t 370 rfl rfl (by omega) ?_
        -- leaf 2: loop 370 [some (.inr (.inr 66)), some (.inl w), some (.inl dm), some (.inl most), some (.inl (rl w)), some (.inl a), some (.inl b), w0, w1, w2, w3] st=[] h=h2 
        exact KD _ _ _ _ _ L1 h2 S2 k2 R2 fin
    | succ n ih =>
      intro b w0 w1 w2 w3 L1 h2 hn e0 S2 k2 R2 X
      have r1 := R2.1
      have kB := k2.wide inA_bkB
      have F2 := C7.kp kB
      have hy : 1 < rl w → gv h2 105 1 = sg w (rl w) 1 := fun y => (k2.1 105 1 rfl).trans (C1 1 (by decide) y)
      have gy : 1 < rl w → 1 ≤ sg w (rl w) 1 ∧ sg w (rl w) 1 ≤ 29 := fun y => ⟨(C2.2 1 (by decide) y).1, (C2.2 1 (by decide) y).2.1⟩
      have full : lim ≤ L1.length → Ext L0 L1 lim (Q1 h (Ws h k s t z) dm w a) := fun f => X.full f (fun l ⟨u, p, y⟩ => ⟨u, y⟩)
      have step : ZS h dm w 1 b → ∀ (v0 v1 v2 v3 : Option PV) (L' : List (List Int)) (h' : PH), Shape h' → Keep inA h h' → RowsM h' L' lim → Ext L1 L' lim (Q2 h (Ws h k s t z) dm w a b) → Wp (d + 4) 0 0 M_X12_sees 364 [some (.inr (.inr 66)), some (.inl w), some (.inl dm), some (.inl most), some (.inl (rl w)), some (.inl a), some (.inl b), v0, v1, v2, v3] [] h' q := by
        intro zx v0 v1 v2 v3 L' h' S' k' R' X'
        refine p_iinc (y := b + 1) (ls' := [some (.inr (.inr 66)), some (.inl w), some (.inl dm), some (.inl most), some (.inl (rl w)), some (.inl a), some (.inl (b + 1)), v0, v1, v2, v3]) 367 rfl rfl rfl (w32_id ⟨(by omega), (by omega)⟩) rfl ?_
        refine p_goto 105 rfl rfl ?_
        -- leaf 1: loop 105 [some (.inr (.inr 66)), some (.inl w), some (.inl dm), some (.inl most), some (.inl (rl w)), some (.inl a), some (.inl (b + 1)), v0, v1, v2, v3] st=[] h=h' 
        refine ih (b + 1) _ _ _ _ L' h' (by omega) (by omega) S' k' R' ((X.trans X').imp (fun l => ⟨?_, ?_⟩))
        · rintro (⟨u, p, y⟩ | y)
          · exact ⟨u, by omega, y⟩
          · exact ⟨b, by omega, zx, y⟩
        · rintro ⟨u, p, y⟩
          by_cases e : u = b
          · rw [e] at y; exact Or.inr y.2
          · exact Or.inl ⟨u, by omega, y⟩
      have skip : ¬ ZS h dm w 1 b → ∀ (v0 v1 v2 v3 : Option PV), Wp (d + 4) 0 0 M_X12_sees 105 [some (.inr (.inr 66)), some (.inl w), some (.inl dm), some (.inl most), some (.inl (rl w)), some (.inl a), some (.inl (b + 1)), v0, v1, v2, v3] [] h2 q := by
        intro zx v0 v1 v2 v3
        refine ih (b + 1) _ _ _ _ L1 h2 (by omega) (by omega) S2 k2 R2 (X.imp (fun l => ⟨fun ⟨u, p, y⟩ => ⟨u, by omega, y⟩, fun ⟨u, p, y⟩ => ⟨u, by
          have : u ≠ b := fun e => zx (by rw [← e]; exact y.1)
          omega, y⟩⟩))
      refine p_iload 107 rfl rfl rfl ?_
      refine p_iload 109 rfl rfl rfl ?_
      refine p_const 110 rfl rfl ?_
      refine p_ic_le 113 118 rfl rfl rfl (fun c1 => ?_) (fun c1 => ?_)
      · skip
        refine p_const 119 rfl rfl ?_
        refine p_ic_gt_f 122 rfl rfl (by omega) ?_
        refine p_aload 123 rfl rfl rfl ?_
        refine p_getfi (j := 52) (z := (L1.length : Int)) 126 rfl rfl rfl (tg_66 S2) rfl r1 ?_
        refine p_iload 127 rfl rfl rfl ?_
        refine p_ic_ge 130 370 rfl rfl rfl (fun c2 => ?_) (fun c2 => ?_)
        · skip
          -- leaf 1: loop 370 [some (.inr (.inr 66)), some (.inl w), some (.inl dm), some (.inl most), some (.inl (rl w)), some (.inl a), some (.inl b), w0, w1, w2, w3] st=[] h=h2 
          first | (exfalso; omega) | exact KD _ _ _ _ _ L1 h2 S2 k2 R2 (full (by omega)) | exact skip (fun y => by rcases y with y | y; exact absurd ((MB_congr kB _ _ _).2 y.2.2) (by assumption); omega) _ _ _ _ | (have zx : ZS h dm w 1 b := (by first | exact Or.inr ⟨by omega, by omega⟩ | exact Or.inl ⟨by omega, by omega, (MB_congr kB _ _ _).1 (by assumption)⟩); first | exact se_c C0 hl za zx (lo := 1) (hi := 29) (by omega) S2 k2 R2 _ _ _ (step zx) | exact se_c C0 hl za zx (lo := 0) (hi := 0) (by omega) S2 k2 R2 _ _ _ (step zx))
        · skip
          refine p_iload 132 rfl rfl rfl ?_
          refine p_const 133 rfl rfl ?_
          refine p_ic_le 136 150 rfl rfl rfl (fun c3 => ?_) (fun c3 => ?_)
          · skip
            refine p_iload 152 rfl rfl rfl ?_
            refine p_const 153 rfl rfl ?_
            refine p_ic_le 156 160 rfl rfl rfl (fun c4 => ?_) (fun c4 => ?_)
            · skip
              refine p_const 161 rfl rfl ?_
              refine p_istore (ls' := [some (.inr (.inr 66)), some (.inl w), some (.inl dm), some (.inl most), some (.inl (rl w)), some (.inl a), some (.inl b), some (.inl 0), w1, w2, w3]) 163 rfl rfl (Nat.le_of_ble_eq_true rfl) rfl ?_
              -- leaf 2: loop 163 [some (.inr (.inr 66)), some (.inl w), some (.inl dm), some (.inl most), some (.inl (rl w)), some (.inl a), some (.inl b), some (.inl 0), w1, w2, w3] st=[] h=h2 
              first | (exfalso; omega) | exact KD _ _ _ _ _ L1 h2 S2 k2 R2 (full (by omega)) | exact skip (fun y => by rcases y with y | y; exact absurd ((MB_congr kB _ _ _).2 y.2.2) (by assumption); omega) _ _ _ _ | (have zx : ZS h dm w 1 b := (by first | exact Or.inr ⟨by omega, by omega⟩ | exact Or.inl ⟨by omega, by omega, (MB_congr kB _ _ _).1 (by assumption)⟩); first | exact se_c C0 hl za zx (lo := 1) (hi := 29) (by omega) S2 k2 R2 _ _ _ (step zx) | exact se_c C0 hl za zx (lo := 0) (hi := 0) (by omega) S2 k2 R2 _ _ _ (step zx))
            · skip
              refine p_const 157 rfl rfl ?_
              refine p_goto 161 rfl rfl ?_
              refine p_istore (ls' := [some (.inr (.inr 66)), some (.inl w), some (.inl dm), some (.inl most), some (.inl (rl w)), some (.inl a), some (.inl b), some (.inl 1), w1, w2, w3]) 163 rfl rfl (Nat.le_of_ble_eq_true rfl) rfl ?_
              -- leaf 3: loop 163 [some (.inr (.inr 66)), some (.inl w), some (.inl dm), some (.inl most), some (.inl (rl w)), some (.inl a), some (.inl b), some (.inl 1), w1, w2, w3] st=[] h=h2 
              first | (exfalso; omega) | exact KD _ _ _ _ _ L1 h2 S2 k2 R2 (full (by omega)) | exact skip (fun y => by rcases y with y | y; exact absurd ((MB_congr kB _ _ _).2 y.2.2) (by assumption); omega) _ _ _ _ | (have zx : ZS h dm w 1 b := (by first | exact Or.inr ⟨by omega, by omega⟩ | exact Or.inl ⟨by omega, by omega, (MB_congr kB _ _ _).1 (by assumption)⟩); first | exact se_c C0 hl za zx (lo := 1) (hi := 29) (by omega) S2 k2 R2 _ _ _ (step zx) | exact se_c C0 hl za zx (lo := 0) (hi := 0) (by omega) S2 k2 R2 _ _ _ (step zx))
          · skip
            refine p_aload 137 rfl rfl rfl ?_
            refine p_const 138 rfl rfl ?_
            refine p_iload 140 rfl rfl rfl ?_
            refine p_iload 141 rfl rfl rfl ?_
            refine p_callv (le := [some (.inr (.inr 66)), some (.inl 1), some (.inl b), some (.inl dm), none]) (as := [.inr (.inr 66), .inl 1, .inl b, .inl dm]) (rest := []) 144 0 0 0 0 rfl rfl (Nat.le_of_ble_eq_true rfl) rfl (Nat.le_of_ble_eq_true rfl) rfl rfl (Nat.le_of_ble_eq_true rfl) rfl (Nat.le_of_ble_eq_true rfl) rfl (Nat.le_refl _) (Nat.le_refl _) rfl rfl (tg_66 S2) ?_
            refine m_mayBe S2 1 b dm F2 (hy (by omega)) (by omega) (by omega) (gy (by omega)).1 (gy (by omega)).2 (by omega) (by omega) (fun c5 => ?_) (fun c5 => ?_)
            · show Wp (d + 4) 0 0 M_X12_sees 144 [some (.inr (.inr 66)), some (.inl w), some (.inl dm), some (.inl most), some (.inl (rl w)), some (.inl a), some (.inl b), w0, w1, w2, w3] [.inl 1] h2 _
              refine p_if_ne_t 150 rfl rfl (by decide) ?_
              refine p_iload 152 rfl rfl rfl ?_
              refine p_const 153 rfl rfl ?_
              refine p_ic_le 156 160 rfl rfl rfl (fun c6 => ?_) (fun c6 => ?_)
              · skip
                refine p_const 161 rfl rfl ?_
                refine p_istore (ls' := [some (.inr (.inr 66)), some (.inl w), some (.inl dm), some (.inl most), some (.inl (rl w)), some (.inl a), some (.inl b), some (.inl 0), w1, w2, w3]) 163 rfl rfl (Nat.le_of_ble_eq_true rfl) rfl ?_
                -- leaf 4: loop 163 [some (.inr (.inr 66)), some (.inl w), some (.inl dm), some (.inl most), some (.inl (rl w)), some (.inl a), some (.inl b), some (.inl 0), w1, w2, w3] st=[] h=h2 
                first | (exfalso; omega) | exact KD _ _ _ _ _ L1 h2 S2 k2 R2 (full (by omega)) | exact skip (fun y => by rcases y with y | y; exact absurd ((MB_congr kB _ _ _).2 y.2.2) (by assumption); omega) _ _ _ _ | (have zx : ZS h dm w 1 b := (by first | exact Or.inr ⟨by omega, by omega⟩ | exact Or.inl ⟨by omega, by omega, (MB_congr kB _ _ _).1 (by assumption)⟩); first | exact se_c C0 hl za zx (lo := 1) (hi := 29) (by omega) S2 k2 R2 _ _ _ (step zx) | exact se_c C0 hl za zx (lo := 0) (hi := 0) (by omega) S2 k2 R2 _ _ _ (step zx))
              · skip
                refine p_const 157 rfl rfl ?_
                refine p_goto 161 rfl rfl ?_
                refine p_istore (ls' := [some (.inr (.inr 66)), some (.inl w), some (.inl dm), some (.inl most), some (.inl (rl w)), some (.inl a), some (.inl b), some (.inl 1), w1, w2, w3]) 163 rfl rfl (Nat.le_of_ble_eq_true rfl) rfl ?_
                -- leaf 5: loop 163 [some (.inr (.inr 66)), some (.inl w), some (.inl dm), some (.inl most), some (.inl (rl w)), some (.inl a), some (.inl b), some (.inl 1), w1, w2, w3] st=[] h=h2 
                first | (exfalso; omega) | exact KD _ _ _ _ _ L1 h2 S2 k2 R2 (full (by omega)) | exact skip (fun y => by rcases y with y | y; exact absurd ((MB_congr kB _ _ _).2 y.2.2) (by assumption); omega) _ _ _ _ | (have zx : ZS h dm w 1 b := (by first | exact Or.inr ⟨by omega, by omega⟩ | exact Or.inl ⟨by omega, by omega, (MB_congr kB _ _ _).1 (by assumption)⟩); first | exact se_c C0 hl za zx (lo := 1) (hi := 29) (by omega) S2 k2 R2 _ _ _ (step zx) | exact se_c C0 hl za zx (lo := 0) (hi := 0) (by omega) S2 k2 R2 _ _ _ (step zx))
            · show Wp (d + 4) 0 0 M_X12_sees 144 [some (.inr (.inr 66)), some (.inl w), some (.inl dm), some (.inl most), some (.inl (rl w)), some (.inl a), some (.inl b), w0, w1, w2, w3] [.inl 0] h2 _
              refine p_if_ne_f 147 rfl rfl (by decide) ?_
              refine p_goto 364 rfl rfl ?_
              refine p_iinc (y := b + 1) (ls' := [some (.inr (.inr 66)), some (.inl w), some (.inl dm), some (.inl most), some (.inl (rl w)), some (.inl a), some (.inl (b + 1)), w0, w1, w2, w3]) 367 rfl rfl rfl (w32_id ⟨(by omega), (by omega)⟩) rfl ?_
              refine p_goto 105 rfl rfl ?_
              -- leaf 6: loop 105 [some (.inr (.inr 66)), some (.inl w), some (.inl dm), some (.inl most), some (.inl (rl w)), some (.inl a), some (.inl (b + 1)), w0, w1, w2, w3] st=[] h=h2 
              first | (exfalso; omega) | exact KD _ _ _ _ _ L1 h2 S2 k2 R2 (full (by omega)) | exact skip (fun y => by rcases y with y | y; exact absurd ((MB_congr kB _ _ _).2 y.2.2) (by assumption); omega) _ _ _ _ | (have zx : ZS h dm w 1 b := (by first | exact Or.inr ⟨by omega, by omega⟩ | exact Or.inl ⟨by omega, by omega, (MB_congr kB _ _ _).1 (by assumption)⟩); first | exact se_c C0 hl za zx (lo := 1) (hi := 29) (by omega) S2 k2 R2 _ _ _ (step zx) | exact se_c C0 hl za zx (lo := 0) (hi := 0) (by omega) S2 k2 R2 _ _ _ (step zx))
      · skip
        refine p_const 115 rfl rfl ?_
        refine p_goto 119 rfl rfl ?_
        refine p_ic_gt_f 122 rfl rfl (by omega) ?_
        refine p_aload 123 rfl rfl rfl ?_
        refine p_getfi (j := 52) (z := (L1.length : Int)) 126 rfl rfl rfl (tg_66 S2) rfl r1 ?_
        refine p_iload 127 rfl rfl rfl ?_
        refine p_ic_ge 130 370 rfl rfl rfl (fun c7 => ?_) (fun c7 => ?_)
        · skip
          -- leaf 7: loop 370 [some (.inr (.inr 66)), some (.inl w), some (.inl dm), some (.inl most), some (.inl (rl w)), some (.inl a), some (.inl b), w0, w1, w2, w3] st=[] h=h2 
          first | (exfalso; omega) | exact KD _ _ _ _ _ L1 h2 S2 k2 R2 (full (by omega)) | exact skip (fun y => by rcases y with y | y; exact absurd ((MB_congr kB _ _ _).2 y.2.2) (by assumption); omega) _ _ _ _ | (have zx : ZS h dm w 1 b := (by first | exact Or.inr ⟨by omega, by omega⟩ | exact Or.inl ⟨by omega, by omega, (MB_congr kB _ _ _).1 (by assumption)⟩); first | exact se_c C0 hl za zx (lo := 1) (hi := 29) (by omega) S2 k2 R2 _ _ _ (step zx) | exact se_c C0 hl za zx (lo := 0) (hi := 0) (by omega) S2 k2 R2 _ _ _ (step zx))
        · skip
          refine p_iload 132 rfl rfl rfl ?_
          refine p_const 133 rfl rfl ?_
          refine p_ic_le 136 150 rfl rfl rfl (fun c8 => ?_) (fun c8 => ?_)
          · skip
            refine p_iload 152 rfl rfl rfl ?_
            refine p_const 153 rfl rfl ?_
            refine p_ic_le 156 160 rfl rfl rfl (fun c9 => ?_) (fun c9 => ?_)
            · skip
              refine p_const 161 rfl rfl ?_
              refine p_istore (ls' := [some (.inr (.inr 66)), some (.inl w), some (.inl dm), some (.inl most), some (.inl (rl w)), some (.inl a), some (.inl b), some (.inl 0), w1, w2, w3]) 163 rfl rfl (Nat.le_of_ble_eq_true rfl) rfl ?_
              -- leaf 8: loop 163 [some (.inr (.inr 66)), some (.inl w), some (.inl dm), some (.inl most), some (.inl (rl w)), some (.inl a), some (.inl b), some (.inl 0), w1, w2, w3] st=[] h=h2 
              first | (exfalso; omega) | exact KD _ _ _ _ _ L1 h2 S2 k2 R2 (full (by omega)) | exact skip (fun y => by rcases y with y | y; exact absurd ((MB_congr kB _ _ _).2 y.2.2) (by assumption); omega) _ _ _ _ | (have zx : ZS h dm w 1 b := (by first | exact Or.inr ⟨by omega, by omega⟩ | exact Or.inl ⟨by omega, by omega, (MB_congr kB _ _ _).1 (by assumption)⟩); first | exact se_c C0 hl za zx (lo := 1) (hi := 29) (by omega) S2 k2 R2 _ _ _ (step zx) | exact se_c C0 hl za zx (lo := 0) (hi := 0) (by omega) S2 k2 R2 _ _ _ (step zx))
            · skip
              refine p_const 157 rfl rfl ?_
              refine p_goto 161 rfl rfl ?_
              refine p_istore (ls' := [some (.inr (.inr 66)), some (.inl w), some (.inl dm), some (.inl most), some (.inl (rl w)), some (.inl a), some (.inl b), some (.inl 1), w1, w2, w3]) 163 rfl rfl (Nat.le_of_ble_eq_true rfl) rfl ?_
              -- leaf 9: loop 163 [some (.inr (.inr 66)), some (.inl w), some (.inl dm), some (.inl most), some (.inl (rl w)), some (.inl a), some (.inl b), some (.inl 1), w1, w2, w3] st=[] h=h2 
              first | (exfalso; omega) | exact KD _ _ _ _ _ L1 h2 S2 k2 R2 (full (by omega)) | exact skip (fun y => by rcases y with y | y; exact absurd ((MB_congr kB _ _ _).2 y.2.2) (by assumption); omega) _ _ _ _ | (have zx : ZS h dm w 1 b := (by first | exact Or.inr ⟨by omega, by omega⟩ | exact Or.inl ⟨by omega, by omega, (MB_congr kB _ _ _).1 (by assumption)⟩); first | exact se_c C0 hl za zx (lo := 1) (hi := 29) (by omega) S2 k2 R2 _ _ _ (step zx) | exact se_c C0 hl za zx (lo := 0) (hi := 0) (by omega) S2 k2 R2 _ _ _ (step zx))
          · skip
            refine p_aload 137 rfl rfl rfl ?_
            refine p_const 138 rfl rfl ?_
            refine p_iload 140 rfl rfl rfl ?_
            refine p_iload 141 rfl rfl rfl ?_
            refine p_callv (le := [some (.inr (.inr 66)), some (.inl 1), some (.inl b), some (.inl dm), none]) (as := [.inr (.inr 66), .inl 1, .inl b, .inl dm]) (rest := []) 144 0 0 0 0 rfl rfl (Nat.le_of_ble_eq_true rfl) rfl (Nat.le_of_ble_eq_true rfl) rfl rfl (Nat.le_of_ble_eq_true rfl) rfl (Nat.le_of_ble_eq_true rfl) rfl (Nat.le_refl _) (Nat.le_refl _) rfl rfl (tg_66 S2) ?_
            refine m_mayBe S2 1 b dm F2 (hy (by omega)) (by omega) (by omega) (gy (by omega)).1 (gy (by omega)).2 (by omega) (by omega) (fun c10 => ?_) (fun c10 => ?_)
            · show Wp (d + 4) 0 0 M_X12_sees 144 [some (.inr (.inr 66)), some (.inl w), some (.inl dm), some (.inl most), some (.inl (rl w)), some (.inl a), some (.inl b), w0, w1, w2, w3] [.inl 1] h2 _
              refine p_if_ne_t 150 rfl rfl (by decide) ?_
              refine p_iload 152 rfl rfl rfl ?_
              refine p_const 153 rfl rfl ?_
              refine p_ic_le 156 160 rfl rfl rfl (fun c11 => ?_) (fun c11 => ?_)
              · skip
                refine p_const 161 rfl rfl ?_
                refine p_istore (ls' := [some (.inr (.inr 66)), some (.inl w), some (.inl dm), some (.inl most), some (.inl (rl w)), some (.inl a), some (.inl b), some (.inl 0), w1, w2, w3]) 163 rfl rfl (Nat.le_of_ble_eq_true rfl) rfl ?_
                -- leaf 10: loop 163 [some (.inr (.inr 66)), some (.inl w), some (.inl dm), some (.inl most), some (.inl (rl w)), some (.inl a), some (.inl b), some (.inl 0), w1, w2, w3] st=[] h=h2 
                first | (exfalso; omega) | exact KD _ _ _ _ _ L1 h2 S2 k2 R2 (full (by omega)) | exact skip (fun y => by rcases y with y | y; exact absurd ((MB_congr kB _ _ _).2 y.2.2) (by assumption); omega) _ _ _ _ | (have zx : ZS h dm w 1 b := (by first | exact Or.inr ⟨by omega, by omega⟩ | exact Or.inl ⟨by omega, by omega, (MB_congr kB _ _ _).1 (by assumption)⟩); first | exact se_c C0 hl za zx (lo := 1) (hi := 29) (by omega) S2 k2 R2 _ _ _ (step zx) | exact se_c C0 hl za zx (lo := 0) (hi := 0) (by omega) S2 k2 R2 _ _ _ (step zx))
              · skip
                refine p_const 157 rfl rfl ?_
                refine p_goto 161 rfl rfl ?_
                refine p_istore (ls' := [some (.inr (.inr 66)), some (.inl w), some (.inl dm), some (.inl most), some (.inl (rl w)), some (.inl a), some (.inl b), some (.inl 1), w1, w2, w3]) 163 rfl rfl (Nat.le_of_ble_eq_true rfl) rfl ?_
                -- leaf 11: loop 163 [some (.inr (.inr 66)), some (.inl w), some (.inl dm), some (.inl most), some (.inl (rl w)), some (.inl a), some (.inl b), some (.inl 1), w1, w2, w3] st=[] h=h2 
                first | (exfalso; omega) | exact KD _ _ _ _ _ L1 h2 S2 k2 R2 (full (by omega)) | exact skip (fun y => by rcases y with y | y; exact absurd ((MB_congr kB _ _ _).2 y.2.2) (by assumption); omega) _ _ _ _ | (have zx : ZS h dm w 1 b := (by first | exact Or.inr ⟨by omega, by omega⟩ | exact Or.inl ⟨by omega, by omega, (MB_congr kB _ _ _).1 (by assumption)⟩); first | exact se_c C0 hl za zx (lo := 1) (hi := 29) (by omega) S2 k2 R2 _ _ _ (step zx) | exact se_c C0 hl za zx (lo := 0) (hi := 0) (by omega) S2 k2 R2 _ _ _ (step zx))
            · show Wp (d + 4) 0 0 M_X12_sees 144 [some (.inr (.inr 66)), some (.inl w), some (.inl dm), some (.inl most), some (.inl (rl w)), some (.inl a), some (.inl b), w0, w1, w2, w3] [.inl 0] h2 _
              refine p_if_ne_f 147 rfl rfl (by decide) ?_
              refine p_goto 364 rfl rfl ?_
              refine p_iinc (y := b + 1) (ls' := [some (.inr (.inr 66)), some (.inl w), some (.inl dm), some (.inl most), some (.inl (rl w)), some (.inl a), some (.inl (b + 1)), w0, w1, w2, w3]) 367 rfl rfl rfl (w32_id ⟨(by omega), (by omega)⟩) rfl ?_
              refine p_goto 105 rfl rfl ?_
              -- leaf 12: loop 105 [some (.inr (.inr 66)), some (.inl w), some (.inl dm), some (.inl most), some (.inl (rl w)), some (.inl a), some (.inl (b + 1)), w0, w1, w2, w3] st=[] h=h2 
              first | (exfalso; omega) | exact KD _ _ _ _ _ L1 h2 S2 k2 R2 (full (by omega)) | exact skip (fun y => by rcases y with y | y; exact absurd ((MB_congr kB _ _ _).2 y.2.2) (by assumption); omega) _ _ _ _ | (have zx : ZS h dm w 1 b := (by first | exact Or.inr ⟨by omega, by omega⟩ | exact Or.inl ⟨by omega, by omega, (MB_congr kB _ _ _).1 (by assumption)⟩); first | exact se_c C0 hl za zx (lo := 1) (hi := 29) (by omega) S2 k2 R2 _ _ _ (step zx) | exact se_c C0 hl za zx (lo := 0) (hi := 0) (by omega) S2 k2 R2 _ _ _ (step zx))
  exact J (hi + 1 - lo).toNat lo w0 w1 w2 w3 L0 h1 (by omega) (Int.le_refl _) S1 k1 R1 ((Ext.refl R1.2.1 R1.2.2.1).imp (fun l => ⟨False.elim, fun ⟨u, p, y⟩ => by omega⟩))
set_option maxRecDepth 4000 in
theorem se_a (C : SC h w k s t z) (hl : most = lim) {lo hi : Int} (hlo : (0 < rl w ∧ lo = 1 ∧ hi = 29) ∨ (rl w ≤ 0 ∧ lo = 0 ∧ hi = 0))
    {L0 : List (List Int)} {h1 : PH} (S1 : Shape h1) (k1 : Keep inA h h1) (R1 : RowsM h1 L0 lim) (w0 w1 w2 w3 w4 : Option PV)
    (KD : ∀ (x0 x1 x2 x3 x4 x5 : Option PV) L' h', Shape h' → Keep inA h h' → RowsM h' L' lim → Ext L0 L' lim (Q0 h (Ws h k s t z) dm w) → Wp (d + 4) 0 0 M_X12_sees 376 [some (.inr (.inr 66)), some (.inl w), some (.inl dm), some (.inl most), some (.inl (rl w)), x0, x1, x2, x3, x4, x5] [] h' q) :
    Wp (d + 4) 0 0 M_X12_sees 63 [some (.inr (.inr 66)), some (.inl w), some (.inl dm), some (.inl most), some (.inl (rl w)), some (.inl lo), w0, w1, w2, w3, w4] [] h1 q := by
  have C0 := C
  obtain ⟨C1, C2, C3, C4, C5, C6, C7⟩ := C
  have wp := C2.1
  have J : ∀ (n : Nat) (a : Int) (w0 w1 w2 w3 w4 : Option PV) (L1 : List (List Int)) (h2 : PH), a + n = hi + 1 → lo ≤ a → Shape h2 → Keep inA h h2 → RowsM h2 L1 lim → Ext L0 L1 lim (fun l => ∃ u, (lo ≤ u ∧ u < a) ∧ ZS h dm w 0 u ∧ Q1 h (Ws h k s t z) dm w u l) →
      Wp (d + 4) 0 0 M_X12_sees 63 [some (.inr (.inr 66)), some (.inl w), some (.inl dm), some (.inl most), some (.inl (rl w)), some (.inl a), w0, w1, w2, w3, w4] [] h2 q := by
    intro n
    induction n with
    | zero =>
      intro a w0 w1 w2 w3 w4 L1 h2 hn e0 S2 k2 R2 X
      have fin : Ext L0 L1 lim (Q0 h (Ws h k s t z) dm w) := X.imp (fun l => ⟨fun ⟨u, p, y⟩ => ⟨u, y⟩, fun ⟨u, y⟩ => ⟨u, by have := y.1; unfold ZS at this; omega, y⟩⟩)
      refine p_iload 65 rfl rfl rfl ?_
      refine p_const 67 rfl rfl ?_
      refine p_ic_gt_t 376 rfl rfl (by omega) ?_
      -- leaf 1: loop 376 [some (.inr (.inr 66)), some (.inl w), some (.inl dm), some (.inl most), some (.inl (rl w)), some (.inl a), w0, w1, w2, w3, w4] st=[] h=h2 
      exact KD _ _ _ _ _ _ L1 h2 S2 k2 R2 fin
    | succ n ih =>
      intro a w0 w1 w2 w3 w4 L1 h2 hn e0 S2 k2 R2 X
      have r1 := R2.1
      have kB := k2.wide inA_bkB
      have F2 := C7.kp kB
      have hy : 0 < rl w → gv h2 105 0 = sg w (rl w) 0 := fun y => (k2.1 105 0 rfl).trans (C1 0 (by decide) y)
      have gy : 0 < rl w → 1 ≤ sg w (rl w) 0 ∧ sg w (rl w) 0 ≤ 29 := fun y => ⟨(C2.2 0 (by decide) y).1, (C2.2 0 (by decide) y).2.1⟩
      have full : lim ≤ L1.length → Ext L0 L1 lim (Q0 h (Ws h k s t z) dm w) := fun f => X.full f (fun l ⟨u, p, y⟩ => ⟨u, y⟩)
      have step : ZS h dm w 0 a → ∀ (v0 v1 v2 v3 v4 : Option PV) (L' : List (List Int)) (h' : PH), Shape h' → Keep inA h h' → RowsM h' L' lim → Ext L1 L' lim (Q1 h (Ws h k s t z) dm w a) → Wp (d + 4) 0 0 M_X12_sees 370 [some (.inr (.inr 66)), some (.inl w), some (.inl dm), some (.inl most), some (.inl (rl w)), some (.inl a), v0, v1, v2, v3, v4] [] h' q := by
        intro zx v0 v1 v2 v3 v4 L' h' S' k' R' X'
        refine p_iinc (y := a + 1) (ls' := [some (.inr (.inr 66)), some (.inl w), some (.inl dm), some (.inl most), some (.inl (rl w)), some (.inl (a + 1)), v0, v1, v2, v3, v4]) 373 rfl rfl rfl (w32_id ⟨(by omega), (by omega)⟩) rfl ?_
        refine p_goto 63 rfl rfl ?_
        -- leaf 1: loop 63 [some (.inr (.inr 66)), some (.inl w), some (.inl dm), some (.inl most), some (.inl (rl w)), some (.inl (a + 1)), v0, v1, v2, v3, v4] st=[] h=h' 
        refine ih (a + 1) _ _ _ _ _ L' h' (by omega) (by omega) S' k' R' ((X.trans X').imp (fun l => ⟨?_, ?_⟩))
        · rintro (⟨u, p, y⟩ | y)
          · exact ⟨u, by omega, y⟩
          · exact ⟨a, by omega, zx, y⟩
        · rintro ⟨u, p, y⟩
          by_cases e : u = a
          · rw [e] at y; exact Or.inr y.2
          · exact Or.inl ⟨u, by omega, y⟩
      have skip : ¬ ZS h dm w 0 a → ∀ (v0 v1 v2 v3 v4 : Option PV), Wp (d + 4) 0 0 M_X12_sees 63 [some (.inr (.inr 66)), some (.inl w), some (.inl dm), some (.inl most), some (.inl (rl w)), some (.inl (a + 1)), v0, v1, v2, v3, v4] [] h2 q := by
        intro zx v0 v1 v2 v3 v4
        refine ih (a + 1) _ _ _ _ _ L1 h2 (by omega) (by omega) S2 k2 R2 (X.imp (fun l => ⟨fun ⟨u, p, y⟩ => ⟨u, by omega, y⟩, fun ⟨u, p, y⟩ => ⟨u, by
          have : u ≠ a := fun e => zx (by rw [← e]; exact y.1)
          omega, y⟩⟩))
      refine p_iload 65 rfl rfl rfl ?_
      refine p_const 67 rfl rfl ?_
      refine p_ic_gt_f 70 rfl rfl (by omega) ?_
      refine p_aload 71 rfl rfl rfl ?_
      refine p_getfi (j := 52) (z := (L1.length : Int)) 74 rfl rfl rfl (tg_66 S2) rfl r1 ?_
      refine p_iload 75 rfl rfl rfl ?_
      refine p_ic_ge 78 376 rfl rfl rfl (fun c1 => ?_) (fun c1 => ?_)
      · skip
        -- leaf 1: loop 376 [some (.inr (.inr 66)), some (.inl w), some (.inl dm), some (.inl most), some (.inl (rl w)), some (.inl a), w0, w1, w2, w3, w4] st=[] h=h2 
        first | (exfalso; omega) | exact KD _ _ _ _ _ _ L1 h2 S2 k2 R2 (full (by omega)) | exact skip (fun y => by rcases y with y | y; exact absurd ((MB_congr kB _ _ _).2 y.2.2) (by assumption); omega) _ _ _ _ _ | (have zx : ZS h dm w 0 a := (by first | exact Or.inr ⟨by omega, by omega⟩ | exact Or.inl ⟨by omega, by omega, (MB_congr kB _ _ _).1 (by assumption)⟩); first | exact se_b C0 hl zx (lo := 1) (hi := 29) (by omega) S2 k2 R2 _ _ _ _ (step zx) | exact se_b C0 hl zx (lo := 0) (hi := 0) (by omega) S2 k2 R2 _ _ _ _ (step zx))
      · skip
        refine p_aload 79 rfl rfl rfl ?_
        refine p_const 80 rfl rfl ?_
        refine p_iload 82 rfl rfl rfl ?_
        refine p_iload 83 rfl rfl rfl ?_
        refine p_callv (le := [some (.inr (.inr 66)), some (.inl 0), some (.inl a), some (.inl dm), none]) (as := [.inr (.inr 66), .inl 0, .inl a, .inl dm]) (rest := []) 86 0 0 0 0 rfl rfl (Nat.le_of_ble_eq_true rfl) rfl (Nat.le_of_ble_eq_true rfl) rfl rfl (Nat.le_of_ble_eq_true rfl) rfl (Nat.le_of_ble_eq_true rfl) rfl (Nat.le_refl _) (Nat.le_refl _) rfl rfl (tg_66 S2) ?_
        refine m_mayBe S2 0 a dm F2 (hy (by omega)) (by omega) (by omega) (gy (by omega)).1 (gy (by omega)).2 (by omega) (by omega) (fun c2 => ?_) (fun c2 => ?_)
        · show Wp (d + 4) 0 0 M_X12_sees 86 [some (.inr (.inr 66)), some (.inl w), some (.inl dm), some (.inl most), some (.inl (rl w)), some (.inl a), w0, w1, w2, w3, w4] [.inl 1] h2 _
          refine p_if_ne_t 92 rfl rfl (by decide) ?_
          refine p_iload 94 rfl rfl rfl ?_
          refine p_const 95 rfl rfl ?_
          refine p_ic_le 98 102 rfl rfl rfl (fun c3 => ?_) (fun c3 => ?_)
          · skip
            refine p_const 103 rfl rfl ?_
            refine p_istore (ls' := [some (.inr (.inr 66)), some (.inl w), some (.inl dm), some (.inl most), some (.inl (rl w)), some (.inl a), some (.inl 0), w1, w2, w3, w4]) 105 rfl rfl (Nat.le_of_ble_eq_true rfl) rfl ?_
            -- leaf 2: loop 105 [some (.inr (.inr 66)), some (.inl w), some (.inl dm), some (.inl most), some (.inl (rl w)), some (.inl a), some (.inl 0), w1, w2, w3, w4] st=[] h=h2 
            first | (exfalso; omega) | exact KD _ _ _ _ _ _ L1 h2 S2 k2 R2 (full (by omega)) | exact skip (fun y => by rcases y with y | y; exact absurd ((MB_congr kB _ _ _).2 y.2.2) (by assumption); omega) _ _ _ _ _ | (have zx : ZS h dm w 0 a := (by first | exact Or.inr ⟨by omega, by omega⟩ | exact Or.inl ⟨by omega, by omega, (MB_congr kB _ _ _).1 (by assumption)⟩); first | exact se_b C0 hl zx (lo := 1) (hi := 29) (by omega) S2 k2 R2 _ _ _ _ (step zx) | exact se_b C0 hl zx (lo := 0) (hi := 0) (by omega) S2 k2 R2 _ _ _ _ (step zx))
          · skip
            refine p_const 99 rfl rfl ?_
            refine p_goto 103 rfl rfl ?_
            refine p_istore (ls' := [some (.inr (.inr 66)), some (.inl w), some (.inl dm), some (.inl most), some (.inl (rl w)), some (.inl a), some (.inl 1), w1, w2, w3, w4]) 105 rfl rfl (Nat.le_of_ble_eq_true rfl) rfl ?_
            -- leaf 3: loop 105 [some (.inr (.inr 66)), some (.inl w), some (.inl dm), some (.inl most), some (.inl (rl w)), some (.inl a), some (.inl 1), w1, w2, w3, w4] st=[] h=h2 
            first | (exfalso; omega) | exact KD _ _ _ _ _ _ L1 h2 S2 k2 R2 (full (by omega)) | exact skip (fun y => by rcases y with y | y; exact absurd ((MB_congr kB _ _ _).2 y.2.2) (by assumption); omega) _ _ _ _ _ | (have zx : ZS h dm w 0 a := (by first | exact Or.inr ⟨by omega, by omega⟩ | exact Or.inl ⟨by omega, by omega, (MB_congr kB _ _ _).1 (by assumption)⟩); first | exact se_b C0 hl zx (lo := 1) (hi := 29) (by omega) S2 k2 R2 _ _ _ _ (step zx) | exact se_b C0 hl zx (lo := 0) (hi := 0) (by omega) S2 k2 R2 _ _ _ _ (step zx))
        · show Wp (d + 4) 0 0 M_X12_sees 86 [some (.inr (.inr 66)), some (.inl w), some (.inl dm), some (.inl most), some (.inl (rl w)), some (.inl a), w0, w1, w2, w3, w4] [.inl 0] h2 _
          refine p_if_ne_f 89 rfl rfl (by decide) ?_
          refine p_goto 370 rfl rfl ?_
          refine p_iinc (y := a + 1) (ls' := [some (.inr (.inr 66)), some (.inl w), some (.inl dm), some (.inl most), some (.inl (rl w)), some (.inl (a + 1)), w0, w1, w2, w3, w4]) 373 rfl rfl rfl (w32_id ⟨(by omega), (by omega)⟩) rfl ?_
          refine p_goto 63 rfl rfl ?_
          -- leaf 4: loop 63 [some (.inr (.inr 66)), some (.inl w), some (.inl dm), some (.inl most), some (.inl (rl w)), some (.inl (a + 1)), w0, w1, w2, w3, w4] st=[] h=h2 
          first | (exfalso; omega) | exact KD _ _ _ _ _ _ L1 h2 S2 k2 R2 (full (by omega)) | exact skip (fun y => by rcases y with y | y; exact absurd ((MB_congr kB _ _ _).2 y.2.2) (by assumption); omega) _ _ _ _ _ | (have zx : ZS h dm w 0 a := (by first | exact Or.inr ⟨by omega, by omega⟩ | exact Or.inl ⟨by omega, by omega, (MB_congr kB _ _ _).1 (by assumption)⟩); first | exact se_b C0 hl zx (lo := 1) (hi := 29) (by omega) S2 k2 R2 _ _ _ _ (step zx) | exact se_b C0 hl zx (lo := 0) (hi := 0) (by omega) S2 k2 R2 _ _ _ _ (step zx))
  exact J (hi + 1 - lo).toNat lo w0 w1 w2 w3 w4 L0 h1 (by omega) (Int.le_refl _) S1 k1 R1 ((Ext.refl R1.2.1 R1.2.2.1).imp (fun l => ⟨False.elim, fun ⟨u, p, y⟩ => by omega⟩))
end SEES
theorem SeenQ_congr {h h' : PH} (K : Keep bkB h h') (W : Int → Int → Prop) (dm w : Int) : SeenQ h' W dm w = SeenQ h W dm w := by
  funext l
  apply propext
  unfold SeenQ
  constructor
  · rintro ⟨c, a, b⟩; exact ⟨c, fun i hi => (MB_congr K _ _ _).1 (a i hi), b⟩
  · rintro ⟨c, a, b⟩; exact ⟨c, fun i hi => (MB_congr K _ _ _).2 (a i hi), b⟩
def seA (a i : Int) : Bool := decide ((a = 66 ∧ (i = 38 ∨ i = 52 ∨ i = 56)) ∨ a = 92 ∨ a = 93 ∨ (102 ≤ a ∧ a ≤ 106))
theorem seA_bkB : ∀ a i, bkB a i = false → seA a i = false := fun a i => dw (by omega)
theorem seA_mA : ∀ a i, mA a i = false → seA a i = false := fun a i => dw (by omega)
theorem inA_seA : ∀ a i, seA a i = false → inA a i = false := fun a i => dw (by omega)
theorem hoA_seA : ∀ a i, seA a i = false → hoA a i = false := fun a i z => hoA_f (fun y => of_decide_eq_false z (by omega))
theorem seA_open : ∀ a i, bkB a i = false ∨ (a = 66 ∧ i = 49) ∨ a = 100 ∨ a = 101 → seA a i = false := fun a i z => decide_eq_false (fun y => by
  rcases z with z | z
  · exact of_decide_eq_false z (by omega)
  · omega)
set_option maxRecDepth 4000 in
theorem m_sees {d : Nat} {h : PH} {q : PQ} (S : Shape h) (w dm most : Int) {k s t z : Int} {lim : Nat} (hl : most = lim) (l100 : lim ≤ 100) (g : isHo w) (O : Open h k s t z) (k0 : 0 ≤ k) (k1 : k ≤ 200) (n0 : 0 ≤ gv h 79 k) (n40 : gv h 79 k ≤ 40) (tv01 : tvs h k s t z) (F : FI h)
    (K : ∀ h', (Keep seA h h' ∧ ∃ L', RowsM h' L' lim ∧ Ext [] L' lim (SeenQ h (Ws h k s t z) dm w)) → Shape h' → q none h') :
    Wp (d + 4) 0 0 M_X12_sees 0 [some (.inr (.inr 66)), some (.inl w), some (.inl dm), some (.inl most), none, none, none, none, none, none, none] [] h q := by
  have rb := rl_in w
  have gp := g.1
  have L : ∀ (c : Nat) (i : Int) (h1 : PH), i + c = 4 → 0 ≤ i → Shape h1 → Keep seA h h1 → gv h1 66 52 = 0 → (∀ j, 0 ≤ j → j < rl w → gv h1 92 j = sg w (rl w) j) → (∀ j, 0 ≤ j → j < i → j < rl w → gv h1 105 j = sg w (rl w) j) →
      Wp (d + 4) 0 0 M_X12_sees 23 [some (.inr (.inr 66)), some (.inl w), some (.inl dm), some (.inl most), some (.inl (rl w)), some (.inl i), none, none, none, none, none] [] h1 q := by
    intro c
    induction c with
    | zero =>
      intro i h1 hi i0 S1 kp g1 g2 g3
      have kB := kp.wide seA_bkB
      have n1 : gv h1 79 k = gv h 79 k := kB.1 79 k rfl
      have SC1 : SC h1 w k s t z := ⟨fun j j0 j1 => g3 j j0 (by omega) j1, g, O.kp kp seA_open, ⟨k0, k1⟩, ⟨by omega, by omega⟩, tv01.kp kB, F.kp kB⟩
      have fin : ∀ (x0 x1 x2 x3 x4 x5 : Option PV) L' h', Shape h' → Keep inA h1 h' → RowsM h' L' lim → Ext [] L' lim (Q0 h1 (Ws h1 k s t z) dm w) → Wp (d + 4) 0 0 M_X12_sees 376 [some (.inr (.inr 66)), some (.inl w), some (.inl dm), some (.inl most), some (.inl (rl w)), x0, x1, x2, x3, x4, x5] [] h' q := by
        intro x0 x1 x2 x3 x4 x5 L' h' S' k' R' X'
        rw [Ws_congr kB] at X'
        refine p_ret rfl rfl ?_
        -- leaf 1: answer [] h=h' 
        exact K _ ⟨kp.trans (k'.wide inA_seA), L', R', X'.imp (fun l => by rw [Q0_iff g, SeenQ_congr kB])⟩ S'
      refine p_iload 25 rfl rfl rfl ?_
      refine p_const 26 rfl rfl ?_
      refine p_ic_ge_t 60 rfl rfl (by omega) ?_
      refine p_const 61 rfl rfl ?_
      refine p_istore (ls' := [some (.inr (.inr 66)), some (.inl w), some (.inl dm), some (.inl most), some (.inl (rl w)), some (.inl 1), none, none, none, none, none]) 63 rfl rfl (Nat.le_of_ble_eq_true rfl) rfl ?_
      -- leaf 1: loop 63 [some (.inr (.inr 66)), some (.inl w), some (.inl dm), some (.inl most), some (.inl (rl w)), some (.inl 1), none, none, none, none, none] st=[] h=h1 
      exact se_a SC1 hl (lo := 1) (hi := 29) (by omega) S1 (Keep.rf _ _) (RowsM.nil g1 l100) _ _ _ _ _ fin
    | succ c ih =>
      intro i h1 hi i0 S1 kp g1 g2 g3
      refine p_iload 25 rfl rfl rfl ?_
      refine p_const 26 rfl rfl ?_
      refine p_ic_ge_f 29 rfl rfl (by omega) ?_
      refine p_aload 30 rfl rfl rfl ?_
      refine p_getfr (j := 57) (z := 105) 33 rfl rfl rfl (tg_66 S1) rfl (fi_66_57 S1) ?_
      refine p_iload 35 rfl rfl rfl ?_
      refine p_iload 37 rfl rfl rfl ?_
      refine p_iload 39 rfl rfl rfl ?_
      refine p_ic_ge 42 52 rfl rfl rfl (fun c1 => ?_) (fun c1 => ?_)
      · skip
        refine p_const 53 rfl rfl ?_
        refine p_iast (w := 4) 54 rfl rfl (by decide) (tg_105 S1) (ln_105 S1) (by omega) (by omega) ?_
        refine p_nmh (fun y2 e2 => ?_)
        have S2 : Shape y2 := by rw [e2]; exact S1.svA fa_105 _ _
        refine p_iinc (y := i + 1) (ls' := [some (.inr (.inr 66)), some (.inl w), some (.inl dm), some (.inl most), some (.inl (rl w)), some (.inl (i + 1)), none, none, none, none, none]) 57 rfl rfl rfl (w32_id ⟨(by omega), (by omega)⟩) rfl ?_
        refine p_goto 23 rfl rfl ?_
        -- leaf 1: loop 23 [some (.inr (.inr 66)), some (.inl w), some (.inl dm), some (.inl most), some (.inl (rl w)), some (.inl (i + 1)), none, none, none, none, none] st=[] h=y2 e2
        refine ih (i + 1) _ (by omega) (by omega) S2 (by rw [e2]; exact kp.sv rfl _) (by rw [e2, sv_ne (by decide)]; exact g1) (fun j j0 j1 => by rw [e2, sv_ne (by decide)]; exact g2 j j0 j1) (fun j j0 j1 j2 => ?_)
        by_cases y : j = i
        · first | (rw [y, e2, sv_eq]; exact g2 i i0 (by omega)) | (exfalso; omega)
        · rw [e2, sv_nf y]; exact g3 j j0 (by omega) j2
      · skip
        refine p_aload 43 rfl rfl rfl ?_
        refine p_getfr (j := 37) (z := 92) 46 rfl rfl rfl (tg_66 S1) rfl (fi_66_37 S1) ?_
        refine p_iload 48 rfl rfl rfl ?_
        refine p_iald (w := 4) (z := gv h1 92 i) 49 rfl rfl (tg_92 S1) (ln_92 S1) (by omega) (by omega) rfl ?_
        refine p_goto 53 rfl rfl ?_
        refine p_iast (w := 4) 54 rfl rfl (by decide) (tg_105 S1) (ln_105 S1) (by omega) (by omega) ?_
        refine p_nmh (fun y3 e3 => ?_)
        have S3 : Shape y3 := by rw [e3]; exact S1.svA fa_105 _ _
        refine p_iinc (y := i + 1) (ls' := [some (.inr (.inr 66)), some (.inl w), some (.inl dm), some (.inl most), some (.inl (rl w)), some (.inl (i + 1)), none, none, none, none, none]) 57 rfl rfl rfl (w32_id ⟨(by omega), (by omega)⟩) rfl ?_
        refine p_goto 23 rfl rfl ?_
        -- leaf 2: loop 23 [some (.inr (.inr 66)), some (.inl w), some (.inl dm), some (.inl most), some (.inl (rl w)), some (.inl (i + 1)), none, none, none, none, none] st=[] h=y3 e3
        refine ih (i + 1) _ (by omega) (by omega) S3 (by rw [e3]; exact kp.sv rfl _) (by rw [e3, sv_ne (by decide)]; exact g1) (fun j j0 j1 => by rw [e3, sv_ne (by decide)]; exact g2 j j0 j1) (fun j j0 j1 j2 => ?_)
        by_cases y : j = i
        · first | (rw [y, e3, sv_eq]; exact g2 i i0 (by omega)) | (exfalso; omega)
        · rw [e3, sv_nf y]; exact g3 j j0 (by omega) j2
  refine p_aload 1 rfl rfl rfl ?_
  refine p_const 2 rfl rfl ?_
  refine p_putfi (j := 52) 5 rfl rfl rfl (fun z => absurd z (by decide)) (tg_66 S) rfl ?_
  refine p_nmh (fun y1 e1 => ?_)
  have S1 : Shape y1 := by rw [e1]; exact S.svF ff_66_52 _
  have kp1 : Keep seA h y1 := by rw [e1]; exact (Keep.rf seA _).sv rfl _
  refine p_aload 6 rfl rfl rfl ?_
  refine p_iload 7 rfl rfl rfl ?_
  refine p_callv (le := [some (.inr (.inr 66)), some (.inl w), none, none]) (as := [.inr (.inr 66), .inl w]) (rest := []) 10 0 0 0 0 rfl rfl (Nat.le_of_ble_eq_true rfl) rfl (Nat.le_of_ble_eq_true rfl) rfl rfl (Nat.le_of_ble_eq_true rfl) rfl (Nat.le_of_ble_eq_true rfl) rfl (Nat.le_refl _) (Nat.le_refl _) rfl rfl (tg_66 S1) ?_
  refine m_isHo S1 w (fun r2 y2 p2 S2 => ?_)
  have kp2 : Keep seA h y2 := kp1.trans (p2.1.wide hoA_seA)
  show Wp (d + 4) 0 0 M_X12_sees 10 [some (.inr (.inr 66)), some (.inl w), some (.inl dm), some (.inl most), none, none, none, none, none, none, none] [.inl r2] y2 _
  refine p_if_ne 13 14 rfl rfl rfl (fun c3 => ?_) (fun c3 => ?_)
  · skip
    refine p_aload 15 rfl rfl rfl ?_
    refine p_getfi (j := 38) (z := gv y2 66 38) 18 rfl rfl rfl (tg_66 S2) rfl rfl ?_
    refine p_istore (ls' := [some (.inr (.inr 66)), some (.inl w), some (.inl dm), some (.inl most), some (.inl (gv y2 66 38)), none, none, none, none, none, none]) 20 rfl rfl (Nat.le_of_ble_eq_true rfl) rfl ?_
    refine p_const 21 rfl rfl ?_
    refine p_istore (ls' := [some (.inr (.inr 66)), some (.inl w), some (.inl dm), some (.inl most), some (.inl (gv y2 66 38)), some (.inl 0), none, none, none, none, none]) 23 rfl rfl (Nat.le_of_ble_eq_true rfl) rfl ?_
    -- leaf 1: loop 23 [some (.inr (.inr 66)), some (.inl w), some (.inl dm), some (.inl most), some (.inl (gv y2 66 38)), some (.inl 0), none, none, none, none, none] st=[] h=y2  kp2
    have py := p2.yes c3
    rw [py.2.1]
    exact L 4 0 _ (by omega) (by omega) S2 kp2 (by rw [p2.1.1 66 52 rfl, e1, sv_eq]) (fun j j0 j1 => by have := (py.2.2 j.toNat (by omega)).1; rw [Int.toNat_of_nonneg j0] at this; exact this) (fun j j0 j1 => by omega)
  · skip
    refine p_ret rfl rfl ?_
    -- leaf 2: answer [] h=y2  kp2
    exact absurd g (p2.no c3)
/-! may -/
abbrev argM (h : PH) (w dm s t : Int) : Prop := kb h ≠ 0 ∧ isHo w ∧ (0 ≤ dm ∧ dm ≤ 18) ∧ (0 ≤ s ∧ s < 10) ∧ (0 ≤ t ∧ t < 1000)
def MayR (h : PH) (w dm s t r : Int) : Prop := (¬ argM h w dm s t ∧ r = -1) ∨ (argM h w dm s t ∧ ∃ L, Ext [] L 100 (SeenQ h (Ws h (kb h) s t (zh h t)) dm w) ∧ r = L.length)
theorem MayR.same {h h' : PH} {w dm s t r r' : Int} (a : MayR h w dm s t r) (K : Keep bkB h h') (b : MayR h' w dm s t r') : r = r' := by
  unfold MayR argM at a b
  rw [kb_congr K, zh_congr K, Ws_congr K, SeenQ_congr K] at b
  rcases a with ⟨a1, a2⟩ | ⟨a1, L, a2, a3⟩ <;> rcases b with ⟨b1, b2⟩ | ⟨b1, M, b2, b3⟩
  · omega
  · exact absurd b1 a1
  · exact absurd a1 b1
  · have := a2.same b2; omega
theorem x_may {d : Nat} {h : PH} {q : PQ} (S : Shape h) (A : AI h) (F : FI h) (w dm s t : Int) (K : ∀ r h', (Keep xA h h' ∧ MayR h w dm s t r) → Shape h' → q (some (.inl r)) h') :
    Wp (d + 9) 0 0 M_X11_may 0 [some (.inr (.inr 2)), some (.inl w), some (.inl dm), some (.inl s), some (.inl t), none] [] h q := by
  have A0 := A
  have kb0 := A.kb
  refine p_aload 1 rfl rfl rfl ?_
  refine p_callv (le := [some (.inr (.inr 2))]) (as := [.inr (.inr 2)]) (rest := []) 4 0 0 0 0 rfl rfl (Nat.le_of_ble_eq_true rfl) rfl (Nat.le_of_ble_eq_true rfl) rfl rfl (Nat.le_of_ble_eq_true rfl) rfl (Nat.le_of_ble_eq_true rfl) rfl (Nat.le_refl _) (Nat.le_refl _) rfl rfl (tg_2 S) ?_
  refine x_knownBook S  (A0) ?_
  show Wp (d + 9) 0 0 M_X11_may 4 [some (.inr (.inr 2)), some (.inl w), some (.inl dm), some (.inl s), some (.inl t), none] [.inr (.inr (xb h))] h _
  refine p_astore (ls' := [some (.inr (.inr 2)), some (.inl w), some (.inl dm), some (.inl s), some (.inl t), some (.inr (.inr (xb h)))]) 6 rfl rfl (Nat.le_of_ble_eq_true rfl) rfl ?_
  refine p_aload 8 rfl rfl rfl ?_
  refine p_ifnull 11 44 rfl rfl rfl (fun c2 => ?_) (fun c2 => ?_)
  · skip
    refine p_const 45 rfl rfl ?_
    refine p_iret rfl rfl ?_
    -- leaf 1: answer [.inl (-1)] h=h 
    refine K _ _ ⟨Keep.rf _ _, Or.inl ⟨fun z => ?_, rfl⟩⟩ S
    rcases kb0 with w | w
    · exact z.1 w.1
    · omega
  · skip
    refine p_iload 12 rfl rfl rfl ?_
    refine p_calls (le := [some (.inl w), none, none, none, none, none, none]) (as := [.inl w]) (rest := []) 15 0 0 0 0 rfl rfl (Nat.le_of_ble_eq_true rfl) rfl (Nat.le_of_ble_eq_true rfl) rfl rfl (Nat.le_of_ble_eq_true rfl) rfl (Nat.le_of_ble_eq_true rfl) rfl (Nat.le_refl _) (Nat.le_refl _) rfl rfl ?_
    refine x_told S w  (fun r3 p3 => ?_)
    show Wp (d + 9) 0 0 M_X11_may 15 [some (.inr (.inr 2)), some (.inl w), some (.inl dm), some (.inl s), some (.inl t), some (.inr (.inr (xb h)))] [.inl r3] h _
    refine p_const 16 rfl rfl ?_
    refine p_ic_eq 19 44 rfl rfl rfl (fun c4 => ?_) (fun c4 => ?_)
    · skip
      refine p_const 45 rfl rfl ?_
      refine p_iret rfl rfl ?_
      -- leaf 2: answer [.inl (-1)] h=h 
      exact K _ _ ⟨Keep.rf _ _, Or.inl ⟨fun z => p3.ne.2 z.2.1 c4, rfl⟩⟩ S
    · skip
      refine p_iload 20 rfl rfl rfl ?_
      refine p_if_lt 23 44 rfl rfl rfl (fun c5 => ?_) (fun c5 => ?_)
      · skip
        refine p_const 45 rfl rfl ?_
        refine p_iret rfl rfl ?_
        -- leaf 3: answer [.inl (-1)] h=h 
        exact K _ _ ⟨Keep.rf _ _, Or.inl ⟨fun z => by have := z.2.2.1; omega, rfl⟩⟩ S
      · skip
        refine p_iload 24 rfl rfl rfl ?_
        refine p_const 26 rfl rfl ?_
        refine p_ic_gt 29 44 rfl rfl rfl (fun c6 => ?_) (fun c6 => ?_)
        · skip
          refine p_const 45 rfl rfl ?_
          refine p_iret rfl rfl ?_
          -- leaf 4: answer [.inl (-1)] h=h 
          exact K _ _ ⟨Keep.rf _ _, Or.inl ⟨fun z => by have := z.2.2.1; omega, rfl⟩⟩ S
        · skip
          refine p_iload 30 rfl rfl rfl ?_
          refine p_calls (le := [some (.inl s)]) (as := [.inl s]) (rest := []) 33 0 0 0 0 rfl rfl (Nat.le_of_ble_eq_true rfl) rfl (Nat.le_of_ble_eq_true rfl) rfl rfl (Nat.le_of_ble_eq_true rfl) rfl (Nat.le_of_ble_eq_true rfl) rfl (Nat.le_refl _) (Nat.le_refl _) rfl rfl ?_
          refine x_isShip S s  (fun c7 => ?_) (fun c7 => ?_)
          · show Wp (d + 9) 0 0 M_X11_may 33 [some (.inr (.inr 2)), some (.inl w), some (.inl dm), some (.inl s), some (.inl t), some (.inr (.inr (xb h)))] [.inl 1] h _
            refine p_if_eq_f 36 rfl rfl (by decide) ?_
            refine p_iload 38 rfl rfl rfl ?_
            refine p_calls (le := [some (.inl t)]) (as := [.inl t]) (rest := []) 41 0 0 0 0 rfl rfl (Nat.le_of_ble_eq_true rfl) rfl (Nat.le_of_ble_eq_true rfl) rfl rfl (Nat.le_of_ble_eq_true rfl) rfl (Nat.le_of_ble_eq_true rfl) rfl (Nat.le_refl _) (Nat.le_refl _) rfl rfl ?_
            refine x_isMinute S t  (fun c8 => ?_) (fun c8 => ?_)
            · show Wp (d + 9) 0 0 M_X11_may 41 [some (.inr (.inr 2)), some (.inl w), some (.inl dm), some (.inl s), some (.inl t), some (.inr (.inr (xb h)))] [.inl 1] h _
              refine p_if_ne_t 46 rfl rfl (by decide) ?_
              refine p_aload 47 rfl rfl rfl ?_
              refine p_getfr (j := 4) (z := 24) 50 rfl rfl rfl (tg_2 S) rfl (fi_2_4 S) ?_
              refine p_aload 52 rfl rfl rfl ?_
              refine p_iload 53 rfl rfl rfl ?_
              refine p_iload 55 rfl rfl rfl ?_
              have R : BkR h (xb h) (kb h) := by rcases kb0 with w | w; exact absurd w.2 c2; exact w.2.2.2
              have kb1 : kb h ≠ 0 := by rcases kb0 with w | w; exact absurd w.2 c2; omega
              have g : isHo w := p3.ne.1 c4
              refine p_callv (le := [some (.inr (.inr 24)), some (.inr (.inr (xb h))), some (.inl s), some (.inl t), none]) (as := [.inr (.inr 24), .inr (.inr (xb h)), .inl s, .inl t]) (rest := []) 58 0 0 0 0 rfl rfl (Nat.le_of_ble_eq_true rfl) rfl (Nat.le_of_ble_eq_true rfl) rfl rfl (Nat.le_of_ble_eq_true rfl) rfl (Nat.le_of_ble_eq_true rfl) rfl (Nat.le_refl _) (Nat.le_refl _) rfl rfl (tg_24 S) ?_
              refine x_prepare S (xb h) s t R F c7 c8 (fun y9 p9 S9 => ?_)
              have kp9 : Keep xA h y9 := (p9.1.wide pA_xA)
              show Wp (d + 9) 0 0 M_X11_may 58 [some (.inr (.inr 2)), some (.inl w), some (.inl dm), some (.inl s), some (.inl t), some (.inr (.inr (xb h)))] [] y9 _
              refine p_aload 59 rfl rfl rfl ?_
              refine p_getfr (j := 4) (z := 24) 62 rfl rfl rfl (tg_2 S9) rfl (fi_2_4 S9) ?_
              refine p_const 64 rfl rfl ?_
              refine p_callv (le := [some (.inr (.inr 24)), some (.inl 100)]) (as := [.inr (.inr 24), .inl 100]) (rest := []) 67 0 0 0 0 rfl rfl (Nat.le_of_ble_eq_true rfl) rfl (Nat.le_of_ble_eq_true rfl) rfl rfl (Nat.le_of_ble_eq_true rfl) rfl (Nat.le_of_ble_eq_true rfl) rfl (Nat.le_refl _) (Nat.le_refl _) rfl rfl (tg_24 S9) ?_
              refine p_aload 1 rfl rfl rfl ?_
              refine p_const 2 rfl rfl ?_
              refine p_putfi (j := 9) 5 rfl rfl rfl (fun z => absurd z (by decide)) (tg_24 S9) rfl ?_
              refine p_nmh (fun y10 e10 => ?_)
              have S10 : Shape y10 := by rw [e10]; exact S9.svF ff_24_9 _
              have kp10 : Keep xA h y10 := by rw [e10]; exact kp9.sv rfl _
              refine p_aload 6 rfl rfl rfl ?_
              refine p_iload 7 rfl rfl rfl ?_
              refine p_aload 8 rfl rfl rfl ?_
              refine p_getfr (j := 8) (z := 28) 11 rfl rfl rfl (tg_24 S10) rfl (fi_24_8 S10) ?_
              refine p_alen (w := 100) 12 rfl rfl (by rw [(tg_28 S10)]; decide) (ln_28 S10) ?_
              refine p_mini (z := min 100 100) 15 rfl rfl (Nat.succ_pos _) (Nat.le_of_ble_eq_true rfl) rfl ?_
              refine p_putfi (j := 10) 18 rfl rfl rfl (fun z => absurd z (by decide)) (tg_24 S10) rfl ?_
              refine p_nmh (fun y11 e11 => ?_)
              have S11 : Shape y11 := by rw [e11]; exact S10.svF ff_24_10 _
              have kp11 : Keep xA h y11 := by rw [e11]; exact kp10.sv rfl _
              refine p_ret rfl rfl ?_
              show Wp (d + 9) 0 0 M_X11_may 67 [some (.inr (.inr 2)), some (.inl w), some (.inl dm), some (.inl s), some (.inl t), some (.inr (.inr (xb h)))] [] y11 _
              refine p_aload 68 rfl rfl rfl ?_
              refine p_getfr (j := 4) (z := 24) 71 rfl rfl rfl (tg_2 S11) rfl (fi_2_4 S11) ?_
              refine p_iload 72 rfl rfl rfl ?_
              refine p_iload 73 rfl rfl rfl ?_
              have K911 : Keep gsA y9 y11 := by rw [e11, e10]; exact ((Keep.rf _ _).sv rfl _).sv rfl _
              have RX : RowsX y11 [] 100 := RowsX.nil (by rw [e11, sv_nf (by decide), e10, sv_eq]) (by rw [e11, sv_eq]; decide) (by decide)
              have kB := kp11.wide xA_bkB
              refine p_callv (le := [some (.inr (.inr 24)), some (.inl w), some (.inl dm), none, none, none]) (as := [.inr (.inr 24), .inl w, .inl dm]) (rest := []) 76 0 0 0 0 rfl rfl (Nat.le_of_ble_eq_true rfl) rfl (Nat.le_of_ble_eq_true rfl) rfl rfl (Nat.le_of_ble_eq_true rfl) rfl (Nat.le_of_ble_eq_true rfl) rfl (Nat.le_refl _) (Nat.le_refl _) rfl rfl (tg_24 S11) ?_
              refine x_gatherSeen S11 w dm (R.kp kB) (p9.2.kp K911 gsA_prep) (F.kp kB) g RX (fun y12 p12 S12 => ?_)
              have kp12 : Keep xA h y12 := kp11.trans (p12.1.wide gsA_xA)
              show Wp (d + 9) 0 0 M_X11_may 76 [some (.inr (.inr 2)), some (.inl w), some (.inl dm), some (.inl s), some (.inl t), some (.inr (.inr (xb h)))] [] y12 _
              refine p_aload 77 rfl rfl rfl ?_
              refine p_getfr (j := 4) (z := 24) 80 rfl rfl rfl (tg_2 S12) rfl (fi_2_4 S12) ?_
              refine p_getfi (j := 9) (z := gv y12 24 9) 83 rfl rfl rfl (tg_24 S12) rfl rfl ?_
              refine p_iret rfl rfl ?_
              -- leaf 5: answer [.inl (gv y12 24 9)] h=y12  kp12
              obtain ⟨k12, L', q2, q3⟩ := p12
              rw [Ws_congr kB, SeenQ_congr kB] at q3
              refine K _ _ ⟨kp12, Or.inr ⟨⟨kb1, g, ⟨by omega, by omega⟩, c7, c8⟩, L', q3, q2.1⟩⟩ S12
            · show Wp (d + 9) 0 0 M_X11_may 41 [some (.inr (.inr 2)), some (.inl w), some (.inl dm), some (.inl s), some (.inl t), some (.inr (.inr (xb h)))] [.inl 0] h _
              refine p_if_ne_f 44 rfl rfl (by decide) ?_
              refine p_const 45 rfl rfl ?_
              refine p_iret rfl rfl ?_
              -- leaf 6: answer [.inl (-1)] h=h 
              exact K _ _ ⟨Keep.rf _ _, Or.inl ⟨fun z => c8 z.2.2.2.2, rfl⟩⟩ S
          · show Wp (d + 9) 0 0 M_X11_may 33 [some (.inr (.inr 2)), some (.inl w), some (.inl dm), some (.inl s), some (.inl t), some (.inr (.inr (xb h)))] [.inl 0] h _
            refine p_if_eq_t 44 rfl rfl (by decide) ?_
            refine p_const 45 rfl rfl ?_
            refine p_iret rfl rfl ?_
            -- leaf 7: answer [.inl (-1)] h=h 
            exact K _ _ ⟨Keep.rf _ _, Or.inl ⟨fun z => c7 z.2.2.2.1, rfl⟩⟩ S
theorem m_may {d : Nat} {h : PH} {q : PQ} (S : Shape h) (A : AI h) (F : FI h) (w dm s t : Int) (K : ∀ r h', (Keep mA h h' ∧ MayR h w dm s t r) → Shape h' → q (some (.inl r)) h') :
    Wp (d + 9) 0 0 M_X12_may 0 [some (.inr (.inr 66)), some (.inl w), some (.inl dm), some (.inl s), some (.inl t), none] [] h q := by
  have A0 := A
  have kb0 := A.kb
  have nwi := nw_in A
  have zhi := fun t0 t1 => zh_in F (t := t) t0 t1
  refine p_aload 1 rfl rfl rfl ?_
  refine p_aload 2 rfl rfl rfl ?_
  refine p_callv (le := [some (.inr (.inr 66))]) (as := [.inr (.inr 66)]) (rest := [.inr (.inr 66)]) 5 0 0 0 0 rfl rfl (Nat.le_of_ble_eq_true rfl) rfl (Nat.le_of_ble_eq_true rfl) rfl rfl (Nat.le_of_ble_eq_true rfl) rfl (Nat.le_of_ble_eq_true rfl) rfl (Nat.le_refl _) (Nat.le_refl _) rfl rfl (tg_66 S) ?_
  refine m_now S  (A0) ?_
  show Wp (d + 9) 0 0 M_X12_may 5 [some (.inr (.inr 66)), some (.inl w), some (.inl dm), some (.inl s), some (.inl t), none] [.inl (nw h), .inr (.inr 66)] h _
  refine p_callv (le := [some (.inr (.inr 66)), some (.inl (nw h)), none, none]) (as := [.inr (.inr 66), .inl (nw h)]) (rest := []) 8 0 0 0 0 rfl rfl (Nat.le_of_ble_eq_true rfl) rfl (Nat.le_of_ble_eq_true rfl) rfl rfl (Nat.le_of_ble_eq_true rfl) rfl (Nat.le_of_ble_eq_true rfl) rfl (Nat.le_refl _) (Nat.le_refl _) rfl rfl (tg_66 S) ?_
  refine m_bookAt S (nw h) A (by omega) (by omega) ?_
  show Wp (d + 9) 0 0 M_X12_may 8 [some (.inr (.inr 66)), some (.inl w), some (.inl dm), some (.inl s), some (.inl t), none] [.inl (kb h)] h _
  refine p_istore (ls' := [some (.inr (.inr 66)), some (.inl w), some (.inl dm), some (.inl s), some (.inl t), some (.inl (kb h))]) 10 rfl rfl (Nat.le_of_ble_eq_true rfl) rfl ?_
  refine p_iload 12 rfl rfl rfl ?_
  refine p_if_eq 15 50 rfl rfl rfl (fun c2 => ?_) (fun c2 => ?_)
  · skip
    refine p_const 51 rfl rfl ?_
    refine p_iret rfl rfl ?_
    -- leaf 1: answer [.inl (-1)] h=h 
    exact K _ _ ⟨Keep.rf _ _, Or.inl ⟨fun z => z.1 c2, rfl⟩⟩ S
  · skip
    obtain ⟨kb1, kb2, _, R⟩ : 1 ≤ kb h ∧ kb h ≤ 200 ∧ 128 ≤ xb h ∧ BkR h (xb h) (kb h) := by rcases kb0 with w | w; exact absurd w.1 c2; exact w
    refine p_iload 16 rfl rfl rfl ?_
    refine p_i2l 17 rfl rfl ?_
    refine p_lconst 18 rfl rfl ?_
    refine p_lconst 21 rfl rfl ?_
    refine p_calls (le := [some (.inr (.inl dm)), none, some (.inr (.inl 0)), none, some (.inr (.inl 18)), none]) (as := [.inr (.inl dm), .inr (.inl 0), .inr (.inl 18)]) (rest := []) 24 0 0 0 0 rfl rfl (Nat.le_of_ble_eq_true rfl) rfl (Nat.le_of_ble_eq_true rfl) rfl rfl (Nat.le_of_ble_eq_true rfl) rfl (Nat.le_of_ble_eq_true rfl) rfl (Nat.le_refl _) (Nat.le_refl _) rfl rfl ?_
    refine m_isIn S dm 0 18  (fun c3 => ?_) (fun c3 => ?_)
    · show Wp (d + 9) 0 0 M_X12_may 24 [some (.inr (.inr 66)), some (.inl w), some (.inl dm), some (.inl s), some (.inl t), some (.inl (kb h))] [.inl 1] h _
      refine p_if_eq_f 27 rfl rfl (by decide) ?_
      refine p_iload 28 rfl rfl rfl ?_
      refine p_calls (le := [some (.inl s)]) (as := [.inl s]) (rest := []) 31 0 0 0 0 rfl rfl (Nat.le_of_ble_eq_true rfl) rfl (Nat.le_of_ble_eq_true rfl) rfl rfl (Nat.le_of_ble_eq_true rfl) rfl (Nat.le_of_ble_eq_true rfl) rfl (Nat.le_refl _) (Nat.le_refl _) rfl rfl ?_
      refine m_isShip S s  (fun c4 => ?_) (fun c4 => ?_)
      · show Wp (d + 9) 0 0 M_X12_may 31 [some (.inr (.inr 66)), some (.inl w), some (.inl dm), some (.inl s), some (.inl t), some (.inl (kb h))] [.inl 1] h _
        refine p_if_eq_f 34 rfl rfl (by decide) ?_
        refine p_iload 36 rfl rfl rfl ?_
        refine p_calls (le := [some (.inl t)]) (as := [.inl t]) (rest := []) 39 0 0 0 0 rfl rfl (Nat.le_of_ble_eq_true rfl) rfl (Nat.le_of_ble_eq_true rfl) rfl rfl (Nat.le_of_ble_eq_true rfl) rfl (Nat.le_of_ble_eq_true rfl) rfl (Nat.le_refl _) (Nat.le_refl _) rfl rfl ?_
        refine m_isMinute S t  (fun c5 => ?_) (fun c5 => ?_)
        · show Wp (d + 9) 0 0 M_X12_may 39 [some (.inr (.inr 66)), some (.inl w), some (.inl dm), some (.inl s), some (.inl t), some (.inl (kb h))] [.inl 1] h _
          refine p_if_eq_f 42 rfl rfl (by decide) ?_
          refine p_aload 43 rfl rfl rfl ?_
          refine p_iload 44 rfl rfl rfl ?_
          refine p_callv (le := [some (.inr (.inr 66)), some (.inl w), none, none]) (as := [.inr (.inr 66), .inl w]) (rest := []) 47 0 0 0 0 rfl rfl (Nat.le_of_ble_eq_true rfl) rfl (Nat.le_of_ble_eq_true rfl) rfl rfl (Nat.le_of_ble_eq_true rfl) rfl (Nat.le_of_ble_eq_true rfl) rfl (Nat.le_refl _) (Nat.le_refl _) rfl rfl (tg_66 S) ?_
          refine m_isHo S w (fun r6 y6 p6 S6 => ?_)
          have kp6 : Keep mA h y6 := (p6.1.wide hoA_mA)
          show Wp (d + 9) 0 0 M_X12_may 47 [some (.inr (.inr 66)), some (.inl w), some (.inl dm), some (.inl s), some (.inl t), some (.inl (kb h))] [.inl r6] y6 _
          refine p_if_ne 50 52 rfl rfl rfl (fun c7 => ?_) (fun c7 => ?_)
          · skip
            refine p_aload 53 rfl rfl rfl ?_
            refine p_iload 55 rfl rfl rfl ?_
            refine p_iload 56 rfl rfl rfl ?_
            refine p_iload 58 rfl rfl rfl ?_
            have kB6 := kp6.wide mA_bkB
            have g := (p6.yes c7).1
            refine p_callv (le := [some (.inr (.inr 66)), some (.inl (kb h)), some (.inl s), some (.inl t), none, none]) (as := [.inr (.inr 66), .inl (kb h), .inl s, .inl t]) (rest := []) 61 0 0 0 0 rfl rfl (Nat.le_of_ble_eq_true rfl) rfl (Nat.le_of_ble_eq_true rfl) rfl rfl (Nat.le_of_ble_eq_true rfl) rfl (Nat.le_of_ble_eq_true rfl) rfl (Nat.le_refl _) (Nat.le_refl _) rfl rfl (tg_66 S6) ?_
            refine m_opensBook S6 (kb h) s t (R.kp kB6) (F.kp kB6) (by omega) (by omega) c4 c5 (fun y8 p8 S8 => ?_)
            have kp8 : Keep mA h y8 := kp6.trans (p8.1.wide moA_mA)
            show Wp (d + 9) 0 0 M_X12_may 61 [some (.inr (.inr 66)), some (.inl w), some (.inl dm), some (.inl s), some (.inl t), some (.inl (kb h))] [] y8 _
            refine p_aload 62 rfl rfl rfl ?_
            refine p_iload 63 rfl rfl rfl ?_
            refine p_iload 64 rfl rfl rfl ?_
            refine p_const 66 rfl rfl ?_
            have kB8 := kp8.wide mA_bkB
            have O8 := p8.2
            rw [zh_congr kB6] at O8
            have R8 := R.kp kB8
            refine p_callv (le := [some (.inr (.inr 66)), some (.inl w), some (.inl dm), some (.inl 100), none, none, none, none, none, none, none]) (as := [.inr (.inr 66), .inl w, .inl dm, .inl 100]) (rest := []) 69 0 0 0 0 rfl rfl (Nat.le_of_ble_eq_true rfl) rfl (Nat.le_of_ble_eq_true rfl) rfl rfl (Nat.le_of_ble_eq_true rfl) rfl (Nat.le_of_ble_eq_true rfl) rfl (Nat.le_refl _) (Nat.le_refl _) rfl rfl (tg_66 S8) ?_
            refine m_sees S8 w dm 100 (lim := 100) rfl (by decide) g O8 (by omega) (by omega) R8.1 R8.2.1 (R8.tvs c4 c5 (zhi c5.1 c5.2)) (F.kp kB8) (fun y9 p9 S9 => ?_)
            have kp9 : Keep mA h y9 := kp8.trans (p9.1.wide seA_mA)
            show Wp (d + 9) 0 0 M_X12_may 69 [some (.inr (.inr 66)), some (.inl w), some (.inl dm), some (.inl s), some (.inl t), some (.inl (kb h))] [] y9 _
            refine p_aload 70 rfl rfl rfl ?_
            refine p_getfi (j := 52) (z := gv y9 66 52) 73 rfl rfl rfl (tg_66 S9) rfl rfl ?_
            refine p_iret rfl rfl ?_
            -- leaf 2: answer [.inl (gv y9 66 52)] h=y9  kp9
            obtain ⟨k9, L', q2, q3⟩ := p9
            rw [Ws_congr kB8, SeenQ_congr kB8] at q3
            refine K _ _ ⟨kp9, Or.inr ⟨⟨c2, g, c3, c4, c5⟩, L', q3, q2.1⟩⟩ S9
          · skip
            refine p_const 51 rfl rfl ?_
            refine p_iret rfl rfl ?_
            -- leaf 3: answer [.inl (-1)] h=y6  kp6
            exact K _ _ ⟨kp6, Or.inl ⟨fun z => p6.no c7 z.2.1, rfl⟩⟩ S6
        · show Wp (d + 9) 0 0 M_X12_may 39 [some (.inr (.inr 66)), some (.inl w), some (.inl dm), some (.inl s), some (.inl t), some (.inl (kb h))] [.inl 0] h _
          refine p_if_eq_t 50 rfl rfl (by decide) ?_
          refine p_const 51 rfl rfl ?_
          refine p_iret rfl rfl ?_
          -- leaf 4: answer [.inl (-1)] h=h 
          exact K _ _ ⟨Keep.rf _ _, Or.inl ⟨fun z => c5 z.2.2.2.2, rfl⟩⟩ S
      · show Wp (d + 9) 0 0 M_X12_may 31 [some (.inr (.inr 66)), some (.inl w), some (.inl dm), some (.inl s), some (.inl t), some (.inl (kb h))] [.inl 0] h _
        refine p_if_eq_t 50 rfl rfl (by decide) ?_
        refine p_const 51 rfl rfl ?_
        refine p_iret rfl rfl ?_
        -- leaf 5: answer [.inl (-1)] h=h 
        exact K _ _ ⟨Keep.rf _ _, Or.inl ⟨fun z => c4 z.2.2.2.1, rfl⟩⟩ S
    · show Wp (d + 9) 0 0 M_X12_may 24 [some (.inr (.inr 66)), some (.inl w), some (.inl dm), some (.inl s), some (.inl t), some (.inl (kb h))] [.inl 0] h _
      refine p_if_eq_t 50 rfl rfl (by decide) ?_
      refine p_const 51 rfl rfl ?_
      refine p_iret rfl rfl ?_
      -- leaf 6: answer [.inl (-1)] h=h 
      exact K _ _ ⟨Keep.rf _ _, Or.inl ⟨fun z => c3 z.2.2.1, rfl⟩⟩ S

