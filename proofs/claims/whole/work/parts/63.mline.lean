/-! THE LINE, the model's side: minutes, line -/
theorem passL_al (h : PH) (k last s t : Int) (l : List Int) (u : LnS) : Lal (passL h k last s t l u) = Lal u := by
  unfold passL
  split
  · split <;> rfl
  · rfl
theorem lstp_al {h : PH} {k last s t x : Int} {u : LnS} (n : x ≠ s) : Lal (lstp h k last s t u) x = Lal u x := by
  by_cases c1 : Lal u s = 0
  · cases e : Lq u s with
    | nil => rw [lstp_none c1 e]
    | cons w r => rw [lstp_bend c1 e]; exact up_ne n
  · by_cases c2 : t < Lfr u s
    · rw [lstp_wait c1 c2]
    · by_cases c3 : ∃ l, only (SQs h k s t (Lal u s)) l
      · obtain ⟨l, o⟩ := c3
        rw [lstp_read c1 c2 o, passL_al]; exact up_ne n
      · by_cases c4 : t - Lfr u s = 19
        · rw [lstp_lose c1 c2 c3 c4]; exact up_ne n
        · rw [lstp_stay c1 c2 c3 c4]
def tru (m : Int) (P : Prop) : Prop := (m = 1 ∧ P) ∨ (m = 0 ∧ ¬ P)
section MPASS
variable {d : Nat} {h : PH} {q : PQ} {a k last st : Int}
theorem m_ships (R : BkR h a k) (F : FI h) (k0 : 0 ≤ k) (k200 : k ≤ 200) (l1 : 1 ≤ last) (l9 : last ≤ 9) (t : Int) (ht : 0 ≤ t ∧ t < 1000) (t3 : t < st + 300) : ∀ (c : Nat) (s m : Int) (u : LnS) (h1 : PH), s + c = last → 0 ≤ s → Shape h1 → Keep lmA h h1 → LM h1 last u → LI last st s t u → tru m (∃ x, (0 ≤ x ∧ x < s) ∧ Lal u x ≠ 0) →
    (∀ (m x6 : Int) (h' : PH), Shape h' → Keep lmA h h' → LM h' last (lshp h k last t c s u) → LI last st last t (lshp h k last t c s u) → tru m (∃ x, (0 ≤ x ∧ x < last) ∧ Lal (lshp h k last t c s u) x ≠ 0) → Wp (d + 10) 0 0 M_X12_line 226 [some (.inr (.inr 66)), some (.inl last), some (.inl st), some (.inl k), some (.inl m), some (.inl t), some (.inl x6)] [] h' q) →
    Wp (d + 10) 0 0 M_X12_line 182 [some (.inr (.inr 66)), some (.inl last), some (.inl st), some (.inl k), some (.inl m), some (.inl t), some (.inl s)] [] h1 q := by
  intro c
  induction c with
  | zero =>
    intro s m u h1 hs s0 S1 kp X L tm K
    have e : s = last := by omega
    refine p_iload 184 rfl rfl rfl ?_
    refine p_iload 185 rfl rfl rfl ?_
    refine p_ic_ge_t 226 rfl rfl (by omega) ?_
    -- leaf 1: loop 226 [some (.inr (.inr 66)), some (.inl last), some (.inl st), some (.inl k), some (.inl m), some (.inl t), some (.inl s)] st=[] h=h1 
    exact K m s h1 S1 kp X (by rw [e] at L; exact L) (by rw [e] at tm; exact tm)
  | succ c ih =>
    intro s m u h1 hs s0 S1 kp X L tm K
    have L' := L.step R F s0 (by omega) l9
    refine p_iload 184 rfl rfl rfl ?_
    refine p_iload 185 rfl rfl rfl ?_
    refine p_ic_ge_f 188 rfl rfl (by omega) ?_
    refine p_aload 189 rfl rfl rfl ?_
    refine p_iload 190 rfl rfl rfl ?_
    refine p_iload 192 rfl rfl rfl ?_
    refine p_iload 194 rfl rfl rfl ?_
    refine p_callv (le := [some (.inr (.inr 66)), some (.inl k), some (.inl s), some (.inl t)]) (as := [.inr (.inr 66), .inl k, .inl s, .inl t]) (rest := []) 197 0 0 0 0 rfl rfl (Nat.le_of_ble_eq_true rfl) rfl (Nat.le_of_ble_eq_true rfl) rfl rfl (Nat.le_of_ble_eq_true rfl) rfl (Nat.le_of_ble_eq_true rfl) rfl (Nat.le_refl _) (Nat.le_refl _) rfl rfl (tg_66 S1) ?_
    refine m_passes R F k0 k200 S1 kp X L (by omega) l9 ht t3 (fun y1 p1 S1 => ?_)
    show Wp (d + 10) 0 0 M_X12_line 197 [some (.inr (.inr 66)), some (.inl last), some (.inl st), some (.inl k), some (.inl m), some (.inl t), some (.inl s)] [] y1 _
    obtain ⟨k1', X'⟩ := p1
    have ce := (X'.2.2.1 s s0 (by omega)).1
    have la := (L'.1 s s0 (by omega)).1
    have old : (∃ x, (0 ≤ x ∧ x < s) ∧ Lal u x ≠ 0) ↔ ∃ x, (0 ≤ x ∧ x < s) ∧ Lal (lstp h k last s t u) x ≠ 0 := ⟨fun ⟨x, p, y⟩ => ⟨x, p, by rw [lstp_al (by omega)]; exact y⟩, fun ⟨x, p, y⟩ => ⟨x, p, by rw [lstp_al (by omega)] at y; exact y⟩⟩
    rw [old] at tm
    refine p_iload 199 rfl rfl rfl ?_
    refine p_if_ne 202 213 rfl rfl rfl (fun c2 => ?_) (fun c2 => ?_)
    · skip
      refine p_const 214 rfl rfl ?_
      refine p_goto 218 rfl rfl ?_
      refine p_istore (ls' := [some (.inr (.inr 66)), some (.inl last), some (.inl st), some (.inl k), some (.inl 1), some (.inl t), some (.inl s)]) 220 rfl rfl (Nat.le_of_ble_eq_true rfl) rfl ?_
      refine p_iinc (y := s + 1) (ls' := [some (.inr (.inr 66)), some (.inl last), some (.inl st), some (.inl k), some (.inl 1), some (.inl t), some (.inl (s + 1))]) 223 rfl rfl rfl (w32_id ⟨(by omega), (by omega)⟩) rfl ?_
      refine p_goto 182 rfl rfl ?_
      -- leaf 1: loop 182 [some (.inr (.inr 66)), some (.inl last), some (.inl st), some (.inl k), some (.inl 1), some (.inl t), some (.inl (s + 1))] st=[] h=y1 
      refine ih (s + 1) 1 _ _ (by omega) (by omega) S1 k1' X' L' ?_ K
      rcases tm with ⟨a, x, p, y⟩ | ⟨a, b⟩
      · exact Or.inl ⟨rfl, x, by omega, y⟩
      · omega
    · skip
      refine p_aload 203 rfl rfl rfl ?_
      refine p_getfr (j := 75) (z := 118) 206 rfl rfl rfl (tg_66 S1) rfl (fi_66_75 S1) ?_
      refine p_iload 208 rfl rfl rfl ?_
      refine p_iald (w := 10) (z := gv y1 118 s) 209 rfl rfl (tg_118 S1) (ln_118 S1) (by omega) (by omega) rfl ?_
      refine p_const 210 rfl rfl ?_
      refine p_ic_eq 213 217 rfl rfl rfl (fun c3 => ?_) (fun c3 => ?_)
      · skip
        refine p_const 218 rfl rfl ?_
        refine p_istore (ls' := [some (.inr (.inr 66)), some (.inl last), some (.inl st), some (.inl k), some (.inl 0), some (.inl t), some (.inl s)]) 220 rfl rfl (Nat.le_of_ble_eq_true rfl) rfl ?_
        refine p_iinc (y := s + 1) (ls' := [some (.inr (.inr 66)), some (.inl last), some (.inl st), some (.inl k), some (.inl 0), some (.inl t), some (.inl (s + 1))]) 223 rfl rfl rfl (w32_id ⟨(by omega), (by omega)⟩) rfl ?_
        refine p_goto 182 rfl rfl ?_
        -- leaf 2: loop 182 [some (.inr (.inr 66)), some (.inl last), some (.inl st), some (.inl k), some (.inl 0), some (.inl t), some (.inl (s + 1))] st=[] h=y1 
        refine ih (s + 1) 0 _ _ (by omega) (by omega) S1 k1' X' L' ?_ K
        have z : Lal (lstp h k last s t u) s = 0 := by
          apply Classical.byContradiction
          intro n
          rw [if_neg n] at ce
          rcases la with ⟨w, _⟩ | ⟨w, _⟩
          · exact n w
          · have := w.pos; omega
        refine Or.inr ⟨rfl, fun ⟨x, p, y⟩ => ?_⟩
        rcases tm with ⟨a, _⟩ | ⟨a, b⟩
        · omega
        · by_cases w : x = s
          · rw [w] at y; exact y z
          · exact b ⟨x, by omega, y⟩
      · skip
        refine p_const 214 rfl rfl ?_
        refine p_goto 218 rfl rfl ?_
        refine p_istore (ls' := [some (.inr (.inr 66)), some (.inl last), some (.inl st), some (.inl k), some (.inl 1), some (.inl t), some (.inl s)]) 220 rfl rfl (Nat.le_of_ble_eq_true rfl) rfl ?_
        refine p_iinc (y := s + 1) (ls' := [some (.inr (.inr 66)), some (.inl last), some (.inl st), some (.inl k), some (.inl 1), some (.inl t), some (.inl (s + 1))]) 223 rfl rfl rfl (w32_id ⟨(by omega), (by omega)⟩) rfl ?_
        refine p_goto 182 rfl rfl ?_
        -- leaf 3: loop 182 [some (.inr (.inr 66)), some (.inl last), some (.inl st), some (.inl k), some (.inl 1), some (.inl t), some (.inl (s + 1))] st=[] h=y1 
        refine ih (s + 1) 1 _ _ (by omega) (by omega) S1 k1' X' L' (Or.inl ⟨rfl, s, by omega, fun z => ?_⟩) K
        rw [if_pos z] at ce
        omega
theorem m_left (l1 : 1 ≤ last) (l9 : last ≤ 9) (t : Int) (u : LnS) (h1 : PH) (S1 : Shape h1) (X : LM h1 last u)
    (K : ∀ (m x6 : Int), tru m (busy last u) → Wp (d + 10) 0 0 M_X12_line 270 [some (.inr (.inr 66)), some (.inl last), some (.inl st), some (.inl k), some (.inl m), some (.inl t), some (.inl x6)] [] h1 q) : ∀ (c : Nat) (s m : Int), s + c = last → 0 ≤ s → tru m ((∃ x, (0 ≤ x ∧ x < last) ∧ Lal u x ≠ 0) ∨ ∃ x, (0 ≤ x ∧ x < s) ∧ Lq u x ≠ []) →
    Wp (d + 10) 0 0 M_X12_line 229 [some (.inr (.inr 66)), some (.inl last), some (.inl st), some (.inl k), some (.inl m), some (.inl t), some (.inl s)] [] h1 q := by
  obtain ⟨X1, X2, X3, X4, X5⟩ := X
  intro c
  induction c with
  | zero =>
    intro s m hs s0 tm
    have e : s = last := by omega
    subst e
    have tb : tru m (busy s u) := by
      rcases tm with ⟨a, b⟩ | ⟨a, b⟩
      · refine Or.inl ⟨a, ?_⟩
        rcases b with ⟨x, p, y⟩ | ⟨x, p, y⟩
        · exact ⟨x, p, Or.inl y⟩
        · exact ⟨x, p, Or.inr y⟩
      · refine Or.inr ⟨a, fun ⟨x, p, y⟩ => b ?_⟩
        rcases y with y | y
        · exact Or.inl ⟨x, p, y⟩
        · exact Or.inr ⟨x, p, y⟩
    refine p_iload 231 rfl rfl rfl ?_
    refine p_iload 232 rfl rfl rfl ?_
    refine p_ic_ge_t 270 rfl rfl (by omega) ?_
    -- leaf 1: loop 270 [some (.inr (.inr 66)), some (.inl s), some (.inl st), some (.inl k), some (.inl m), some (.inl t), some (.inl s)] st=[] h=h1 
    exact K m s tb
  | succ c ih =>
    intro s m hs s0 tm
    obtain ⟨⟨q0, q0'⟩, q1, q2, q3⟩ := X2 s s0 (by omega)
    refine p_iload 231 rfl rfl rfl ?_
    refine p_iload 232 rfl rfl rfl ?_
    refine p_ic_ge_f 235 rfl rfl (by omega) ?_
    refine p_iload 237 rfl rfl rfl ?_
    refine p_if_ne 240 257 rfl rfl rfl (fun c1 => ?_) (fun c1 => ?_)
    · skip
      refine p_const 258 rfl rfl ?_
      refine p_goto 262 rfl rfl ?_
      refine p_istore (ls' := [some (.inr (.inr 66)), some (.inl last), some (.inl st), some (.inl k), some (.inl 1), some (.inl t), some (.inl s)]) 264 rfl rfl (Nat.le_of_ble_eq_true rfl) rfl ?_
      refine p_iinc (y := s + 1) (ls' := [some (.inr (.inr 66)), some (.inl last), some (.inl st), some (.inl k), some (.inl 1), some (.inl t), some (.inl (s + 1))]) 267 rfl rfl rfl (w32_id ⟨(by omega), (by omega)⟩) rfl ?_
      refine p_goto 229 rfl rfl ?_
      -- leaf 1: loop 229 [some (.inr (.inr 66)), some (.inl last), some (.inl st), some (.inl k), some (.inl 1), some (.inl t), some (.inl (s + 1))] st=[] h=h1 
      refine ih (s + 1) 1 (by omega) (by omega) ?_
      rcases tm with ⟨a, b⟩ | ⟨a, b⟩
      · refine Or.inl ⟨rfl, ?_⟩
        rcases b with b | ⟨x, p, y⟩
        · exact Or.inl b
        · exact Or.inr ⟨x, by omega, y⟩
      · omega
    · skip
      refine p_aload 241 rfl rfl rfl ?_
      refine p_getfr (j := 74) (z := 117) 244 rfl rfl rfl (tg_66 S1) rfl (fi_66_74 S1) ?_
      refine p_iload 246 rfl rfl rfl ?_
      refine p_iald (w := 10) (z := (Ltl u s - (Lq u s).length)) 247 rfl rfl (tg_117 S1) (ln_117 S1) (by omega) (by omega) q2 ?_
      refine p_aload 248 rfl rfl rfl ?_
      refine p_getfr (j := 73) (z := 116) 251 rfl rfl rfl (tg_66 S1) rfl (fi_66_73 S1) ?_
      refine p_iload 253 rfl rfl rfl ?_
      refine p_iald (w := 10) (z := (Ltl u s)) 254 rfl rfl (tg_116 S1) (ln_116 S1) (by omega) (by omega) q1 ?_
      refine p_ic_ge 257 261 rfl rfl rfl (fun c2 => ?_) (fun c2 => ?_)
      · skip
        refine p_const 262 rfl rfl ?_
        refine p_istore (ls' := [some (.inr (.inr 66)), some (.inl last), some (.inl st), some (.inl k), some (.inl 0), some (.inl t), some (.inl s)]) 264 rfl rfl (Nat.le_of_ble_eq_true rfl) rfl ?_
        refine p_iinc (y := s + 1) (ls' := [some (.inr (.inr 66)), some (.inl last), some (.inl st), some (.inl k), some (.inl 0), some (.inl t), some (.inl (s + 1))]) 267 rfl rfl rfl (w32_id ⟨(by omega), (by omega)⟩) rfl ?_
        refine p_goto 229 rfl rfl ?_
        -- leaf 2: loop 229 [some (.inr (.inr 66)), some (.inl last), some (.inl st), some (.inl k), some (.inl 0), some (.inl t), some (.inl (s + 1))] st=[] h=h1 
        have z : Lq u s = [] := by
          apply Classical.byContradiction
          intro n
          have := List.length_pos_iff.mpr n
          omega
        refine ih (s + 1) 0 (by omega) (by omega) (Or.inr ⟨rfl, fun y => ?_⟩)
        rcases tm with ⟨a, _⟩ | ⟨a, b⟩
        · omega
        · rcases y with y | ⟨x, p, y⟩
          · exact b (Or.inl y)
          · by_cases w : x = s
            · rw [w] at y; exact y z
            · exact b (Or.inr ⟨x, by omega, y⟩)
      · skip
        refine p_const 258 rfl rfl ?_
        refine p_goto 262 rfl rfl ?_
        refine p_istore (ls' := [some (.inr (.inr 66)), some (.inl last), some (.inl st), some (.inl k), some (.inl 1), some (.inl t), some (.inl s)]) 264 rfl rfl (Nat.le_of_ble_eq_true rfl) rfl ?_
        refine p_iinc (y := s + 1) (ls' := [some (.inr (.inr 66)), some (.inl last), some (.inl st), some (.inl k), some (.inl 1), some (.inl t), some (.inl (s + 1))]) 267 rfl rfl rfl (w32_id ⟨(by omega), (by omega)⟩) rfl ?_
        refine p_goto 229 rfl rfl ?_
        -- leaf 3: loop 229 [some (.inr (.inr 66)), some (.inl last), some (.inl st), some (.inl k), some (.inl 1), some (.inl t), some (.inl (s + 1))] st=[] h=h1 
        refine ih (s + 1) 1 (by omega) (by omega) (Or.inl ⟨rfl, Or.inr ⟨s, by omega, fun z => ?_⟩⟩)
        have : ((Lq u s).length : Int) = 0 := by rw [z]; rfl
        omega
theorem m_minutes (R : BkR h a k) (F : FI h) (k0 : 0 ≤ k) (k200 : k ≤ 200) (l1 : 1 ≤ last) (l9 : last ≤ 9) (hst : 0 ≤ st ∧ st ≤ 700) : ∀ (c : Nat) (t m : Int) (w6 : Option PV) (u : LnS) (h1 : PH), t + c = st + 300 → st ≤ t → Shape h1 → Keep lmA h h1 → LM h1 last u → LI last st 0 t u → tru m (busy last u) →
    (∀ (h' : PH), (Keep lmA h h' ∧ LM h' last (lrun h k last c t u)) → Shape h' → q (some (.inl (Lgt (lrun h k last c t u) last))) h') →
    Wp (d + 10) 0 0 M_X12_line 161 [some (.inr (.inr 66)), some (.inl last), some (.inl st), some (.inl k), some (.inl m), some (.inl t), w6] [] h1 q := by
  intro c
  induction c with
  | zero =>
    intro t m w6 u h1 hs s0 S1 kp X L tm K
    have e120 := (X.2.2.1 last (by omega) (by omega)).2.2.1
    refine p_iload 163 rfl rfl rfl ?_
    refine p_iload 164 rfl rfl rfl ?_
    refine p_const 167 rfl rfl ?_
    refine p_iadd (z := st + 300) 168 rfl rfl (w32_id ⟨(by omega), (by omega)⟩) ?_
    refine p_ic_ge_t 276 rfl rfl (by omega) ?_
    refine p_aload 277 rfl rfl rfl ?_
    refine p_getfr (j := 77) (z := 120) 280 rfl rfl rfl (tg_66 S1) rfl (fi_66_77 S1) ?_
    refine p_iload 281 rfl rfl rfl ?_
    refine p_iald (w := 10) (z := (Lgt u last)) 282 rfl rfl (tg_120 S1) (ln_120 S1) (by omega) (by omega) e120 ?_
    refine p_iret rfl rfl ?_
    -- leaf 1: answer [.inl (Lgt u last)] h=h1 
    exact K h1 ⟨kp, X⟩ S1
  | succ c ih =>
    intro t m w6 u h1 hs s0 S1 kp X L tm K
    have e120 := (X.2.2.1 last (by omega) (by omega)).2.2.1
    have J270 : ∀ (m x6 : Int) (v : LnS) (h' : PH), Shape h' → Keep lmA h h' → LM h' last v → LI last st 0 (t + 1) v → tru m (busy last v) → lrun h k last (c + 1) t u = lrun h k last c (t + 1) v → Wp (d + 10) 0 0 M_X12_line 270 [some (.inr (.inr 66)), some (.inl last), some (.inl st), some (.inl k), some (.inl m), some (.inl t), some (.inl x6)] [] h' q := by
      intro m x6 v h' S' k' X' L' tb e
      rw [e] at K
      refine p_iinc (y := t + 1) (ls' := [some (.inr (.inr 66)), some (.inl last), some (.inl st), some (.inl k), some (.inl m), some (.inl (t + 1)), some (.inl x6)]) 273 rfl rfl rfl (w32_id ⟨(by omega), (by omega)⟩) rfl ?_
      refine p_goto 161 rfl rfl ?_
      -- leaf 1: loop 161 [some (.inr (.inr 66)), some (.inl last), some (.inl st), some (.inl k), some (.inl m), some (.inl (t + 1)), some (.inl x6)] st=[] h=h' 
      exact ih (t + 1) m _ v h' (by omega) (by omega) S' k' X' L' tb K
    have J226 : ∀ (m x6 : Int) (v : LnS) (h' : PH), Shape h' → Keep lmA h h' → LM h' last v → LI last st last t v → tru m (∃ x, (0 ≤ x ∧ x < last) ∧ Lal v x ≠ 0) → lrun h k last (c + 1) t u = lrun h k last c (t + 1) v → Wp (d + 10) 0 0 M_X12_line 226 [some (.inr (.inr 66)), some (.inl last), some (.inl st), some (.inl k), some (.inl m), some (.inl t), some (.inl x6)] [] h' q := by
      intro m x6 v h' S' k' X' L' tb e
      refine p_const 227 rfl rfl ?_
      refine p_istore (ls' := [some (.inr (.inr 66)), some (.inl last), some (.inl st), some (.inl k), some (.inl m), some (.inl t), some (.inl 0)]) 229 rfl rfl (Nat.le_of_ble_eq_true rfl) rfl ?_
      -- leaf 1: loop 229 [some (.inr (.inr 66)), some (.inl last), some (.inl st), some (.inl k), some (.inl m), some (.inl t), some (.inl 0)] st=[] h=h' 
      refine m_left l1 l9 t v h' S' X' (fun m x6 tb => J270 m x6 v h' S' k' X' L'.next tb e) last.toNat 0 m (by omega) (by omega) ?_
      rcases tb with ⟨a, b⟩ | ⟨a, b⟩
      · exact Or.inl ⟨a, Or.inl b⟩
      · refine Or.inr ⟨a, fun y => ?_⟩
        rcases y with y | ⟨x, p, _⟩
        · exact b y
        · omega
    refine p_iload 163 rfl rfl rfl ?_
    refine p_iload 164 rfl rfl rfl ?_
    refine p_const 167 rfl rfl ?_
    refine p_iadd (z := st + 300) 168 rfl rfl (w32_id ⟨(by omega), (by omega)⟩) ?_
    refine p_ic_ge_f 171 rfl rfl (by omega) ?_
    refine p_iload 173 rfl rfl rfl ?_
    refine p_if_eq 176 276 rfl rfl rfl (fun c1 => ?_) (fun c1 => ?_)
    · skip
      refine p_aload 277 rfl rfl rfl ?_
      refine p_getfr (j := 77) (z := 120) 280 rfl rfl rfl (tg_66 S1) rfl (fi_66_77 S1) ?_
      refine p_iload 281 rfl rfl rfl ?_
      refine p_iald (w := 10) (z := (Lgt u last)) 282 rfl rfl (tg_120 S1) (ln_120 S1) (by omega) (by omega) e120 ?_
      refine p_iret rfl rfl ?_
      -- leaf 1: answer [.inl (Lgt u last)] h=h1 
      have nb : ¬ busy last u := by
        rcases tm with ⟨a, _⟩ | ⟨_, b⟩
        · omega
        · exact b
      have e : lrun h k last (c + 1) t u = u := if_neg nb
      rw [e] at K
      exact K h1 ⟨kp, X⟩ S1
    · skip
      refine p_const 177 rfl rfl ?_
      refine p_istore (ls' := [some (.inr (.inr 66)), some (.inl last), some (.inl st), some (.inl k), some (.inl 0), some (.inl t), w6]) 179 rfl rfl (Nat.le_of_ble_eq_true rfl) rfl ?_
      refine p_const 180 rfl rfl ?_
      refine p_istore (ls' := [some (.inr (.inr 66)), some (.inl last), some (.inl st), some (.inl k), some (.inl 0), some (.inl t), some (.inl 0)]) 182 rfl rfl (Nat.le_of_ble_eq_true rfl) rfl ?_
      -- leaf 2: loop 182 [some (.inr (.inr 66)), some (.inl last), some (.inl st), some (.inl k), some (.inl 0), some (.inl t), some (.inl 0)] st=[] h=h1 
      have bz : busy last u := by
        rcases tm with ⟨_, b⟩ | ⟨a, _⟩
        · exact b
        · omega
      exact m_ships R F k0 k200 l1 l9 t ⟨by omega, by omega⟩ (by omega) last.toNat 0 0 u h1 (by omega) (by omega) S1 kp X L (Or.inr ⟨rfl, fun ⟨x, p, _⟩ => by omega⟩) (fun m x6 h' S' k' X' L' tb => J226 m x6 _ h' S' k' X' L' tb (if_pos bz))
end MPASS
def iqA (a _i : Int) : Bool := decide (115 ≤ a ∧ a ≤ 123)
theorem iqA_lmA : ∀ a i, lmA a i = false → iqA a i = false := fun a i => dw (by omega)
theorem m_init {d : Nat} {g : PH} {q : PQ} {last t k n : Int} {B : Int → Q4t} {hst : Int → Int} {pln : Int → Prop} (l1 : 1 ≤ last) (l9 : last ≤ 9) (ok : ∀ i, 0 ≤ i → i ≤ n → bOk hst pln n B i) (n1 : 1 ≤ n) (n12 : n ≤ 12) (b0 : (B 0).1 < 1000) (hn : gv g 66 62 = n) (ce : ∀ i, 0 ≤ i → i ≤ n → PMn g n i (B i)) (g71 : gv g 66 71 = last) (g70 : gv g 66 70 = 1) (g81 : gv g 66 81 = 0)
    (K : ∀ (w6 : Option PV) (h' : PH), Shape h' → Keep iqA g h' → LM h' last (l0 (pth B n n.toNat 0)) → Wp (d + 10) 0 0 M_X12_line 161 [some (.inr (.inr 66)), some (.inl last), some (.inl t), some (.inl k), some (.inl 1), some (.inl t), w6] [] h' q) : ∀ (c : Nat) (s : Int) (h1 : PH), s + c = 10 → 0 ≤ s → Shape h1 → Keep iqA g h1 → (∀ i, 0 ≤ i → i < s → gv h1 116 i = 0 ∧ gv h1 117 i = 0 ∧ gv h1 118 i = -1 ∧ gv h1 120 i = 0 ∧ gv h1 121 i = -1 ∧ gv h1 122 i = 0 ∧ gv h1 123 i = 0) →
      Wp (d + 10) 0 0 M_X12_line 81 [some (.inr (.inr 66)), some (.inl last), some (.inl t), some (.inl k), some (.inl s), none, none] [] h1 q := by
  have len0 := pth_len ok n.toNat 0 (by omega) (Int.le_refl 0) (by omega) b0
  have bb0 : 0 ≤ (B 0).1 ∧ (B 0).1 ≤ 12 := by
    rcases ok 0 (Int.le_refl 0) (by omega) with y | ⟨y, _⟩ <;> omega
  intro c
  induction c with
  | zero =>
    intro s h1 hs s0 S1 kp al
    have ht : gv h1 116 0 = 0 := (al 0 (by omega) (by omega)).1
    refine p_iload 83 rfl rfl rfl ?_
    refine p_const 85 rfl rfl ?_
    refine p_ic_ge_t 150 rfl rfl (by omega) ?_
    refine p_aload 151 rfl rfl rfl ?_
    refine p_const 152 rfl rfl ?_
    refine p_callv (le := [some (.inr (.inr 66)), some (.inl 0), none]) (as := [.inr (.inr 66), .inl 0]) (rest := []) 155 0 0 0 0 rfl rfl (Nat.le_of_ble_eq_true rfl) rfl (Nat.le_of_ble_eq_true rfl) rfl rfl (Nat.le_of_ble_eq_true rfl) rfl (Nat.le_of_ble_eq_true rfl) rfl (Nat.le_refl _) (Nat.le_refl _) rfl rfl (tg_66 S1) ?_
    refine m_queues S1 0 ok n1 n12 b0 (by decide) ((kp.1 66 62 rfl).trans hn) (fun i i0 i1 => (ce i i0 i1).kp (fun a a0 a1 => kp.1 a i (decide_eq_false (by omega)))) ht (by decide) (by omega) (fun y1 p1 S1 => ?_)
    show Wp (d + 10) 0 0 M_X12_line 155 [some (.inr (.inr 66)), some (.inl last), some (.inl t), some (.inl k), some (.inl s), none, none] [] y1 _
    refine p_const 156 rfl rfl ?_
    refine p_istore (ls' := [some (.inr (.inr 66)), some (.inl last), some (.inl t), some (.inl k), some (.inl 1), none, none]) 158 rfl rfl (Nat.le_of_ble_eq_true rfl) rfl ?_
    refine p_iload 159 rfl rfl rfl ?_
    refine p_istore (ls' := [some (.inr (.inr 66)), some (.inl last), some (.inl t), some (.inl k), some (.inl 1), some (.inl t), none]) 161 rfl rfl (Nat.le_of_ble_eq_true rfl) rfl ?_
    -- leaf 1: loop 161 [some (.inr (.inr 66)), some (.inl last), some (.inl t), some (.inl k), some (.inl 1), some (.inl t), none] st=[] h=y1 
    obtain ⟨k1, f116, f116', f115, w9⟩ := p1
    have f9 : ∀ b i, b ≠ 115 → b ≠ 116 → gv y1 b i = gv h1 b i := fun b i n1 n2 => k1.1 b i (decide_eq_false (by omega))
    refine K _ _ S1 (kp.trans (k1.wide (fun b i z => dw (by omega) z))) ⟨⟨(f9 66 71 (by decide) (by decide)).trans ((kp.1 66 71 rfl).trans g71), (f9 66 70 (by decide) (by decide)).trans ((kp.1 66 70 rfl).trans g70)⟩, fun x x0 x1 => ?_, fun x x0 x1 => ?_, (f9 66 81 (by decide) (by decide)).trans ((kp.1 66 81 rfl).trans g81), fun j w hj => by cases hj⟩
    · show QM _ x (if x = 0 then pth B n n.toNat 0 else []) (if x = 0 then ((pth B n n.toNat 0).length : Int) else 0)
      have ax := al x x0 (by omega)
      by_cases z : x = 0
      · subst z
        rw [if_pos rfl, if_pos rfl]
        refine ⟨⟨by omega, by omega⟩, by rw [f116]; omega, by rw [f9 117 0 (by decide) (by decide), ax.2.1]; omega, fun j w hj => ?_⟩
        have y := w9 j w hj
        rw [show 640 * 0 + (((pth B n n.toNat 0).length : Int) - ((pth B n n.toNat 0).length : Int) + (j : Int)) = 640 * 0 + 0 + (j : Int) by omega]; exact y
      · rw [if_neg z, if_neg z]
        exact ⟨⟨by show (0 : Int) ≤ 0; omega, by omega⟩, by rw [f116' x z]; exact ax.1, by rw [f9 117 x (by decide) (by decide)]; exact ax.2.1, fun j w hj => by cases hj⟩
    · have ax := al x x0 (by omega)
      exact ⟨(f9 118 x (by decide) (by decide)).trans ax.2.2.1, fun z => absurd rfl z, (f9 120 x (by decide) (by decide)).trans ax.2.2.2.1, (f9 121 x (by decide) (by decide)).trans ax.2.2.2.2.1, (f9 122 x (by decide) (by decide)).trans ax.2.2.2.2.2.1, (f9 123 x (by decide) (by decide)).trans ax.2.2.2.2.2.2⟩
  | succ c ih =>
    intro s h1 hs s0 S1 kp al
    refine p_iload 83 rfl rfl rfl ?_
    refine p_const 85 rfl rfl ?_
    refine p_ic_ge_f 88 rfl rfl (by omega) ?_
    refine p_aload 89 rfl rfl rfl ?_
    refine p_getfr (j := 73) (z := 116) 92 rfl rfl rfl (tg_66 S1) rfl (fi_66_73 S1) ?_
    refine p_iload 94 rfl rfl rfl ?_
    refine p_const 95 rfl rfl ?_
    refine p_iast (w := 10) 96 rfl rfl (by decide) (tg_116 S1) (ln_116 S1) (by omega) (by omega) ?_
    refine p_nmh (fun y1 e1 => ?_)
    have S1 : Shape y1 := by rw [e1]; exact S1.svA fa_116 _ _
    refine p_aload 97 rfl rfl rfl ?_
    refine p_getfr (j := 74) (z := 117) 100 rfl rfl rfl (tg_66 S1) rfl (fi_66_74 S1) ?_
    refine p_iload 102 rfl rfl rfl ?_
    refine p_const 103 rfl rfl ?_
    refine p_iast (w := 10) 104 rfl rfl (by decide) (tg_117 S1) (ln_117 S1) (by omega) (by omega) ?_
    refine p_nmh (fun y2 e2 => ?_)
    have S2 : Shape y2 := by rw [e2]; exact S1.svA fa_117 _ _
    refine p_aload 105 rfl rfl rfl ?_
    refine p_getfr (j := 75) (z := 118) 108 rfl rfl rfl (tg_66 S2) rfl (fi_66_75 S2) ?_
    refine p_iload 110 rfl rfl rfl ?_
    refine p_const 111 rfl rfl ?_
    refine p_iast (w := 10) 112 rfl rfl (by decide) (tg_118 S2) (ln_118 S2) (by omega) (by omega) ?_
    refine p_nmh (fun y3 e3 => ?_)
    have S3 : Shape y3 := by rw [e3]; exact S2.svA fa_118 _ _
    refine p_aload 113 rfl rfl rfl ?_
    refine p_getfr (j := 77) (z := 120) 116 rfl rfl rfl (tg_66 S3) rfl (fi_66_77 S3) ?_
    refine p_iload 118 rfl rfl rfl ?_
    refine p_const 119 rfl rfl ?_
    refine p_iast (w := 10) 120 rfl rfl (by decide) (tg_120 S3) (ln_120 S3) (by omega) (by omega) ?_
    refine p_nmh (fun y4 e4 => ?_)
    have S4 : Shape y4 := by rw [e4]; exact S3.svA fa_120 _ _
    refine p_aload 121 rfl rfl rfl ?_
    refine p_getfr (j := 78) (z := 121) 124 rfl rfl rfl (tg_66 S4) rfl (fi_66_78 S4) ?_
    refine p_iload 126 rfl rfl rfl ?_
    refine p_const 127 rfl rfl ?_
    refine p_iast (w := 10) 128 rfl rfl (by decide) (tg_121 S4) (ln_121 S4) (by omega) (by omega) ?_
    refine p_nmh (fun y5 e5 => ?_)
    have S5 : Shape y5 := by rw [e5]; exact S4.svA fa_121 _ _
    refine p_aload 129 rfl rfl rfl ?_
    refine p_getfr (j := 79) (z := 122) 132 rfl rfl rfl (tg_66 S5) rfl (fi_66_79 S5) ?_
    refine p_iload 134 rfl rfl rfl ?_
    refine p_const 135 rfl rfl ?_
    refine p_iast (w := 10) 136 rfl rfl (by decide) (tg_122 S5) (ln_122 S5) (by omega) (by omega) ?_
    refine p_nmh (fun y6 e6 => ?_)
    have S6 : Shape y6 := by rw [e6]; exact S5.svA fa_122 _ _
    refine p_aload 137 rfl rfl rfl ?_
    refine p_getfr (j := 80) (z := 123) 140 rfl rfl rfl (tg_66 S6) rfl (fi_66_80 S6) ?_
    refine p_iload 142 rfl rfl rfl ?_
    refine p_const 143 rfl rfl ?_
    refine p_zast (w := 10) 144 rfl rfl (by decide) (tg_123 S6) (ln_123 S6) (by omega) (by omega) (by decide) ?_
    refine p_nmh (fun y7 e7 => ?_)
    have S7 : Shape y7 := by rw [e7]; exact S6.svA fa_123 _ _
    refine p_iinc (y := s + 1) (ls' := [some (.inr (.inr 66)), some (.inl last), some (.inl t), some (.inl k), some (.inl (s + 1)), none, none]) 147 rfl rfl rfl (w32_id ⟨(by omega), (by omega)⟩) rfl ?_
    refine p_goto 81 rfl rfl ?_
    -- leaf 1: loop 81 [some (.inr (.inr 66)), some (.inl last), some (.inl t), some (.inl k), some (.inl (s + 1)), none, none] st=[] h=y7 e7,e6,e5,e4,e3,e2,e1
    refine ih (s + 1) _ (by omega) (by omega) S7 (by rw [e7, e6, e5, e4, e3, e2, e1]; exact ((((((kp.sv rfl _).sv rfl _).sv rfl _).sv rfl _).sv rfl _).sv rfl _).sv rfl _) (fun i i0 i1 => ?_)
    by_cases z : i = s
    · subst z
      exact ⟨by rw [e7, e6, e5, e4, e3, e2, e1, sv_ne (by decide), sv_ne (by decide), sv_ne (by decide), sv_ne (by decide), sv_ne (by decide), sv_ne (by decide), sv_eq], by rw [e7, e6, e5, e4, e3, e2, e1, sv_ne (by decide), sv_ne (by decide), sv_ne (by decide), sv_ne (by decide), sv_ne (by decide), sv_eq], by rw [e7, e6, e5, e4, e3, e2, e1, sv_ne (by decide), sv_ne (by decide), sv_ne (by decide), sv_ne (by decide), sv_eq], by rw [e7, e6, e5, e4, e3, e2, e1, sv_ne (by decide), sv_ne (by decide), sv_ne (by decide), sv_eq], by rw [e7, e6, e5, e4, e3, e2, e1, sv_ne (by decide), sv_ne (by decide), sv_eq], by rw [e7, e6, e5, e4, e3, e2, e1, sv_ne (by decide), sv_eq], by rw [e7, e6, e5, e4, e3, e2, e1, sv_eq]⟩
    · have e : ∀ b, gv y7 b i = gv h1 b i := fun b => by rw [e7, e6, e5, e4, e3, e2, e1, sv_nf z, sv_nf z, sv_nf z, sv_nf z, sv_nf z, sv_nf z, sv_nf z]
      rw [e, e, e, e, e, e, e]; exact al i i0 (by omega)
def LineM (h : PH) (last t r : Int) (h' : PH) : Prop := (¬ lOk h last t ∧ r = -1 ∧ ∀ b i, (115 ≤ b ∧ b ≤ 124) ∨ (b = 66 ∧ 70 ≤ i ∧ i ≤ 81) → gv h' b i = gv h b i) ∨ (lOk h last t ∧ LM h' last (lFin h last t) ∧ r = Lgt (lFin h last t) last)
theorem m_line {d : Nat} {h : PH} {q : PQ} (S : Shape h) (A : AI h) (F : FI h) (M : MI h) (last t : Int) (K : ∀ r h', (Keep lmA h h' ∧ LineM h last t r h') → Shape h' → q (some (.inl r)) h') :
    Wp (d + 10) 0 0 M_X12_line 0 [some (.inr (.inr 66)), some (.inl last), some (.inl t), none, none, none, none] [] h q := by
  have A0 := A
  have kb0 := A.kb
  have nwi := nw_in A
  have zhi := fun t0 t1 => zh_in F (t := t) t0 t1
  obtain ⟨⟨M0, M1⟩, _, _⟩ := id M
  have no : ∀ h', ¬ lOk h last t → Keep lmA h h' → (∀ b i, (115 ≤ b ∧ b ≤ 124) ∨ (b = 66 ∧ 70 ≤ i ∧ i ≤ 81) → gv h' b i = gv h b i) → Keep lmA h h' ∧ LineM h last t (-1) h' := fun h' n k e => ⟨k, Or.inl ⟨n, rfl, e⟩⟩
  refine p_aload 1 rfl rfl rfl ?_
  refine p_aload 2 rfl rfl rfl ?_
  refine p_callv (le := [some (.inr (.inr 66))]) (as := [.inr (.inr 66)]) (rest := [.inr (.inr 66)]) 5 0 0 0 0 rfl rfl (Nat.le_of_ble_eq_true rfl) rfl (Nat.le_of_ble_eq_true rfl) rfl rfl (Nat.le_of_ble_eq_true rfl) rfl (Nat.le_of_ble_eq_true rfl) rfl (Nat.le_refl _) (Nat.le_refl _) rfl rfl (tg_66 S) ?_
  refine m_now S  (A0) ?_
  show Wp (d + 10) 0 0 M_X12_line 5 [some (.inr (.inr 66)), some (.inl last), some (.inl t), none, none, none, none] [.inl (nw h), .inr (.inr 66)] h _
  refine p_callv (le := [some (.inr (.inr 66)), some (.inl (nw h)), none, none]) (as := [.inr (.inr 66), .inl (nw h)]) (rest := []) 8 0 0 0 0 rfl rfl (Nat.le_of_ble_eq_true rfl) rfl (Nat.le_of_ble_eq_true rfl) rfl rfl (Nat.le_of_ble_eq_true rfl) rfl (Nat.le_of_ble_eq_true rfl) rfl (Nat.le_refl _) (Nat.le_refl _) rfl rfl (tg_66 S) ?_
  refine m_bookAt S (nw h) A (by omega) (by omega) ?_
  show Wp (d + 10) 0 0 M_X12_line 8 [some (.inr (.inr 66)), some (.inl last), some (.inl t), none, none, none, none] [.inl (kb h)] h _
  refine p_istore (ls' := [some (.inr (.inr 66)), some (.inl last), some (.inl t), some (.inl (kb h)), none, none, none]) 9 rfl rfl (Nat.le_of_ble_eq_true rfl) rfl ?_
  refine p_iload 10 rfl rfl rfl ?_
  refine p_if_eq 13 37 rfl rfl rfl (fun c2 => ?_) (fun c2 => ?_)
  · skip
    refine p_const 38 rfl rfl ?_
    refine p_iret rfl rfl ?_
    -- leaf 1: answer [.inl (-1)] h=h 
    exact K _ _ (no _ (fun y => y.2.2.1.1 c2) (Keep.rf _ _) (fun _ _ _ => rfl)) S
  · skip
    obtain ⟨kb1, kb2, _, R⟩ : 1 ≤ kb h ∧ kb h ≤ 200 ∧ 128 ≤ xb h ∧ BkR h (xb h) (kb h) := by rcases kb0 with w | w; exact absurd w.1 c2; exact w
    refine p_iload 14 rfl rfl rfl ?_
    refine p_i2l 15 rfl rfl ?_
    refine p_lconst 16 rfl rfl ?_
    refine p_lconst 19 rfl rfl ?_
    refine p_calls (le := [some (.inr (.inl last)), none, some (.inr (.inl 1)), none, some (.inr (.inl 9)), none]) (as := [.inr (.inl last), .inr (.inl 1), .inr (.inl 9)]) (rest := []) 22 0 0 0 0 rfl rfl (Nat.le_of_ble_eq_true rfl) rfl (Nat.le_of_ble_eq_true rfl) rfl rfl (Nat.le_of_ble_eq_true rfl) rfl (Nat.le_of_ble_eq_true rfl) rfl (Nat.le_refl _) (Nat.le_refl _) rfl rfl ?_
    refine m_isIn S last 1 9  (fun c3 => ?_) (fun c3 => ?_)
    · show Wp (d + 10) 0 0 M_X12_line 22 [some (.inr (.inr 66)), some (.inl last), some (.inl t), some (.inl (kb h)), none, none, none] [.inl 1] h _
      refine p_if_eq_f 25 rfl rfl (by decide) ?_
      refine p_iload 26 rfl rfl rfl ?_
      refine p_i2l 27 rfl rfl ?_
      refine p_lconst 28 rfl rfl ?_
      refine p_lconst 31 rfl rfl ?_
      refine p_calls (le := [some (.inr (.inl t)), none, some (.inr (.inl 0)), none, some (.inr (.inl 700)), none]) (as := [.inr (.inl t), .inr (.inl 0), .inr (.inl 700)]) (rest := []) 34 0 0 0 0 rfl rfl (Nat.le_of_ble_eq_true rfl) rfl (Nat.le_of_ble_eq_true rfl) rfl rfl (Nat.le_of_ble_eq_true rfl) rfl (Nat.le_of_ble_eq_true rfl) rfl (Nat.le_refl _) (Nat.le_refl _) rfl rfl ?_
      refine m_isIn S t 0 700  (fun c4 => ?_) (fun c4 => ?_)
      · show Wp (d + 10) 0 0 M_X12_line 34 [some (.inr (.inr 66)), some (.inl last), some (.inl t), some (.inl (kb h)), none, none, none] [.inl 1] h _
        refine p_if_ne_t 39 rfl rfl (by decide) ?_
        have ht : 0 ≤ t ∧ t < 1000 := by omega
        refine p_aload 40 rfl rfl rfl ?_
        refine p_iload 41 rfl rfl rfl ?_
        refine p_const 42 rfl rfl ?_
        refine p_iload 43 rfl rfl rfl ?_
        refine p_callv (le := [some (.inr (.inr 66)), some (.inl (kb h)), some (.inl 0), some (.inl t), none, none]) (as := [.inr (.inr 66), .inl (kb h), .inl 0, .inl t]) (rest := []) 46 0 0 0 0 rfl rfl (Nat.le_of_ble_eq_true rfl) rfl (Nat.le_of_ble_eq_true rfl) rfl rfl (Nat.le_of_ble_eq_true rfl) rfl (Nat.le_of_ble_eq_true rfl) rfl (Nat.le_refl _) (Nat.le_refl _) rfl rfl (tg_66 S) ?_
        refine m_opensBook S (kb h) 0 t R F (by omega) (by omega) (by decide) ht (fun y5 p5 S5 => ?_)
        have kp5 : Keep lmA h y5 := (p5.1.wide moA_lmA)
        show Wp (d + 10) 0 0 M_X12_line 46 [some (.inr (.inr 66)), some (.inl last), some (.inl t), some (.inl (kb h)), none, none, none] [] y5 _
        have kB5 := kp5.wide lmA_bkB
        have m79 : gv y5 79 (kb h) = gv h 79 (kb h) := kB5.1 79 _ rfl
        have r79 := R.1
        have r80 := R.2.1
        have e210 : gv y5 2 10 = gv h 2 10 := p5.1.1 2 10 rfl
        have eid : ids y5 (kb h) = ids h (kb h) := ids_kp kB5 (fun i => p5.1.1 64 i rfl) _
        refine p_aload 47 rfl rfl rfl ?_
        refine p_callv (le := [some (.inr (.inr 66)), none, none]) (as := [.inr (.inr 66)]) (rest := []) 50 0 0 0 0 rfl rfl (Nat.le_of_ble_eq_true rfl) rfl (Nat.le_of_ble_eq_true rfl) rfl rfl (Nat.le_of_ble_eq_true rfl) rfl (Nat.le_of_ble_eq_true rfl) rfl (Nat.le_refl _) (Nat.le_refl _) rfl rfl (tg_66 S5) ?_
        refine m_takes S5 p5.2.1 (by omega) (by omega) (by omega) (by omega) (M.kp (fun a i z => p5.1.1 a i (decide_eq_false (by omega)))) (fun r6 y6 p6 S6 => ?_)
        have kp6 : Keep lmA h y6 := kp5.trans (p6.1.wide tmA_lmA)
        show Wp (d + 10) 0 0 M_X12_line 50 [some (.inr (.inr 66)), some (.inl last), some (.inl t), some (.inl (kb h)), none, none, none] [.inl r6] y6 _
        have kB6 := kp6.wide lmA_bkB
        have q6 : AdM h (kb h) r6 y6 := by have y := p6.2; unfold AdM adOk at y ⊢; rw [e210, eid] at y; exact y
        refine p_if_eq 53 61 rfl rfl rfl (fun c7 => ?_) (fun c7 => ?_)
        · skip
          refine p_const 62 rfl rfl ?_
          refine p_iret rfl rfl ?_
          -- leaf 2: answer [.inl (-1)] h=y6  kp6
          refine K _ _ (no _ (fun y => ?_) kp6 (fun b i z => by rw [p6.1.1 b i (decide_eq_false (by omega)), p5.1.1 b i (decide_eq_false (by omega))])) S6
          rcases q6 with w | w
          · omega
          · exact w.2 y.2.2.1.2.2.2
        · skip
          have q6' : adOk h (kb h) ∧ gv y6 66 62 = gv h 2 10 ∧ ∀ i, 0 ≤ i → i < gv h 2 10 → gv y6 109 i = ids h (kb h) i := by rcases q6 with w | w; exact w.2; exact absurd w.1 c7
          obtain ⟨hok, hn, hids⟩ := q6'
          have hn1 := hok.1
          refine p_aload 54 rfl rfl rfl ?_
          refine p_const 55 rfl rfl ?_
          refine p_callv (le := [some (.inr (.inr 66)), some (.inl 0), none, none, none, none, none]) (as := [.inr (.inr 66), .inl 0]) (rest := []) 58 0 0 0 0 rfl rfl (Nat.le_of_ble_eq_true rfl) rfl (Nat.le_of_ble_eq_true rfl) rfl rfl (Nat.le_of_ble_eq_true rfl) rfl (Nat.le_of_ble_eq_true rfl) rfl (Nat.le_refl _) (Nat.le_refl _) rfl rfl (tg_66 S6) ?_
          refine m_sends S6 0 (R.kp kB6) (by omega) (by omega) (p5.2.kp p6.1 tmA_open) (F.kp kB6) (by decide) ht (zhi ht.1 ht.2) hn (by omega) (by omega) (fun r8 y8 p8 S8 => ?_)
          have kp8 : Keep lmA h y8 := kp6.trans (p8.1.wide msA_lmA)
          show Wp (d + 10) 0 0 M_X12_line 58 [some (.inr (.inr 66)), some (.inl last), some (.inl t), some (.inl (kb h)), none, none, none] [.inl r8] y8 _
          have EB : bstF y6 (kb h) 0 t (zh h t) (fun i => gv y6 109 i) (gv h 2 10) (gv h 2 10).toNat = sB h 0 t := by
            rw [bstF_congr kB6]; exact bstF_ids hids _ (by omega)
          obtain ⟨k8, ce, er⟩ := p8
          rw [EB] at ce er
          have ok : ∀ i, 0 ≤ i → i ≤ gv h 2 10 → bOk (hstF h 0) (plnF h (kb h) 0 t (zh h t)) (gv h 2 10) (sB h 0 t) i := fun i i0 i1 => R.bok (gv h 2 10).toNat i (by omega) i1
          refine p_if_ne 61 63 rfl rfl rfl (fun c9 => ?_) (fun c9 => ?_)
          · skip
            refine p_aload 64 rfl rfl rfl ?_
            refine p_const 65 rfl rfl ?_
            refine p_putfz (j := 70) 68 rfl rfl rfl (fun z => absurd z (by decide)) (tg_66 S8) (by decide) rfl ?_
            refine p_nmh (fun y10 e10 => ?_)
            have S10 : Shape y10 := by rw [e10]; exact S8.svF ff_66_70 _
            have kp10 : Keep lmA h y10 := by rw [e10]; exact kp8.sv rfl _
            refine p_aload 69 rfl rfl rfl ?_
            refine p_iload 70 rfl rfl rfl ?_
            refine p_putfi (j := 71) 73 rfl rfl rfl (fun z => absurd z (by decide)) (tg_66 S10) rfl ?_
            refine p_nmh (fun y11 e11 => ?_)
            have S11 : Shape y11 := by rw [e11]; exact S10.svF ff_66_71 _
            have kp11 : Keep lmA h y11 := by rw [e11]; exact kp10.sv rfl _
            refine p_aload 74 rfl rfl rfl ?_
            refine p_const 75 rfl rfl ?_
            refine p_putfi (j := 81) 78 rfl rfl rfl (fun z => absurd z (by decide)) (tg_66 S11) rfl ?_
            refine p_nmh (fun y12 e12 => ?_)
            have S12 : Shape y12 := by rw [e12]; exact S11.svF ff_66_81 _
            have kp12 : Keep lmA h y12 := by rw [e12]; exact kp11.sv rfl _
            refine p_const 79 rfl rfl ?_
            refine p_istore (ls' := [some (.inr (.inr 66)), some (.inl last), some (.inl t), some (.inl (kb h)), some (.inl 0), none, none]) 81 rfl rfl (Nat.le_of_ble_eq_true rfl) rfl ?_
            -- leaf 3: loop 81 [some (.inr (.inr 66)), some (.inl last), some (.inl t), some (.inl (kb h)), some (.inl 0), none, none] st=[] h=y12 e12,e11,e10 kp12
            have b0 : (sB h 0 t 0).1 < 1000 := by by_cases w : (sB h 0 t 0).1 < 1000; exact w; rw [if_neg w] at er; exact absurd er c9
            have R3 : gv h 87 0 ≤ 3 := by have := F.rp 0 (by decide) (by decide); omega
            have ho : ∀ w ∈ sH h 0 t, isHo w := pth_ho R3 ok (gv h 2 10).toNat 0 (Int.le_refl 0) (by omega) b0
            have bi := ok 0 (Int.le_refl 0) (by omega)
            have b1 : 1 ≤ (sB h 0 t 0).1 ∧ (sB h 0 t 0).1 ≤ 12 := by
              rcases bi with w | ⟨w, _, w3⟩
              · omega
              · obtain ⟨⟨z1, z2⟩, z3, z4, _⟩ := w3 (by omega)
                rcases ok _ (by omega) z2 with w' | ⟨w', _⟩ <;> omega
            have hl : ((sH h 0 t).length : Int) = (sB h 0 t 0).1 := pth_len ok (gv h 2 10).toNat 0 (by omega) (Int.le_refl 0) (by omega) b0
            have h12 : (sH h 0 t).length ≤ 12 := by omega
            have bz : busy last (l0 (sH h 0 t)) := ⟨0, by omega, Or.inr (fun z => by
              have z : (if (0 : Int) = 0 then sH h 0 t else []) = [] := z
              rw [if_pos rfl] at z
              rw [z] at hl
              have hl : (0 : Int) = (sB h 0 t 0).1 := hl
              omega)⟩
            refine m_init (g := y12) (by omega) (by omega) ok (by omega) (by omega) b0 ((show gv y12 66 62 = gv y8 66 62 by rw [e12, sv_nf (by decide), e11, sv_nf (by decide), e10, sv_nf (by decide)]).trans ((k8.1 66 62 rfl).trans hn)) (fun i i0 i1 => (ce i i0 i1).kp (fun a a0 a1 => by rw [e12, sv_ne (by omega), e11, sv_ne (by omega), e10, sv_ne (by omega)])) (by rw [e12, sv_nf (by decide), e11, sv_eq]) (by rw [e12, sv_nf (by decide), e11, sv_nf (by decide), e10, sv_eq]) (by rw [e12, sv_eq]) (fun w6 h' S' k' X' => ?_) 10 0 y12 (by decide) (by decide) S12 (Keep.rf _ _) (fun i i0 i1 => by omega)
            refine m_minutes R F (by omega) (by omega) (by omega) (by omega) (by omega) 300 t 1 w6 _ h' (by omega) (by omega) S' (kp12.trans (k'.wide iqA_lmA)) X' (l0_LI ho h12) (Or.inl ⟨rfl, bz⟩) (fun h'' p S'' => ?_)
            exact K _ _ ⟨p.1, Or.inr ⟨⟨⟨by omega, by omega⟩, ⟨by omega, by omega⟩, ⟨c2, ⟨by decide, by decide⟩, ht, hok⟩, b0⟩, p.2, rfl⟩⟩ S''
          · skip
            refine p_const 62 rfl rfl ?_
            refine p_iret rfl rfl ?_
            -- leaf 4: answer [.inl (-1)] h=y8  kp8
            refine K _ _ (no _ (fun y => ?_) kp8 (fun b i z => by rw [k8.1 b i (decide_eq_false (by omega)), p6.1.1 b i (decide_eq_false (by omega)), p5.1.1 b i (decide_eq_false (by omega))])) S8
            rw [if_pos y.2.2.2] at er
            omega
      · show Wp (d + 10) 0 0 M_X12_line 34 [some (.inr (.inr 66)), some (.inl last), some (.inl t), some (.inl (kb h)), none, none, none] [.inl 0] h _
        refine p_if_ne_f 37 rfl rfl (by decide) ?_
        refine p_const 38 rfl rfl ?_
        refine p_iret rfl rfl ?_
        -- leaf 5: answer [.inl (-1)] h=h 
        exact K _ _ (no _ (fun y => c4 (by have := y.2.1; omega)) (Keep.rf _ _) (fun _ _ _ => rfl)) S
    · show Wp (d + 10) 0 0 M_X12_line 22 [some (.inr (.inr 66)), some (.inl last), some (.inl t), some (.inl (kb h)), none, none, none] [.inl 0] h _
      refine p_if_eq_t 37 rfl rfl (by decide) ?_
      refine p_const 38 rfl rfl ?_
      refine p_iret rfl rfl ?_
      -- leaf 6: answer [.inl (-1)] h=h 
      exact K _ _ (no _ (fun y => c3 (by have := y.1; omega)) (Keep.rf _ _) (fun _ _ _ => rfl)) S
/-! line, along and heard alike -/
def LineI (h : PH) : Prop := (gv h 38 3 = -1 ∧ gv h 38 15 = 0 ∧ gv h 66 70 = 0) ∨ ∃ last u, (1 ≤ last ∧ last ≤ 9) ∧ LX h last u ∧ LM h last u ∧ (Lhd u).length ≤ 240 ∧ ∀ s, 0 ≤ s → s ≤ last → Llo u s = 0 ∨ Llo u s = 1
theorem LineI.kp {h h' : PH} (T : LineI h) (e : ∀ b i, (40 ≤ b ∧ b ≤ 58) ∨ (b = 38 ∧ (i = 3 ∨ i = 15)) ∨ (115 ≤ b ∧ b ≤ 124) ∨ (b = 66 ∧ 70 ≤ i ∧ i ≤ 81) → gv h' b i = gv h b i) : LineI h' := by
  rcases T with ⟨a, b, c⟩ | ⟨last, u, l, X, M, z⟩
  · exact Or.inl ⟨(e 38 3 (by omega)).trans a, (e 38 15 (by omega)).trans b, (e 66 70 (by omega)).trans c⟩
  · exact Or.inr ⟨last, u, l, X.kp (fun b i y => e b i (by omega)) l.2, M.kp (fun b i y => e b i (by omega)), z⟩
theorem lOk_kp {h h' : PH} (K : Keep bkB h h') (e : ∀ i, gv h' 64 i = gv h 64 i) (e10 : gv h' 2 10 = gv h 2 10) (s t : Int) : lOk h' s t ↔ lOk h s t := by
  unfold lOk
  rw [sOk_kp K e e10]
theorem sH_kp {h h' : PH} (K : Keep bkB h h') (e : ∀ i, gv h' 64 i = gv h 64 i) (e10 : gv h' 2 10 = gv h 2 10) (s t : Int) : sH h' s t = sH h s t := by
  unfold sH
  rw [sB_kp K e e10, e10]
theorem passL_kp {h h' : PH} (K : Keep bkB h h') (k last s t : Int) (l : List Int) (u : LnS) : passL h' k last s t l u = passL h k last s t l u := by
  have e : lB h' k s t l = lB h k s t l := by unfold lB; rw [zh_congr K, bstF_congr K]
  have e2 : lH h' k s t l = lH h k s t l := by unfold lH; rw [e]
  unfold passL
  rw [e, e2]
theorem SQs_kp {h h' : PH} (K : Keep bkB h h') (k s t w : Int) : SQs h' k s t w = SQs h k s t w := by
  have := SQs_eq K k s t w
  unfold SQs at this ⊢
  rw [zh_congr K]; exact this
theorem lstp_kp {h h' : PH} (K : Keep bkB h h') (k last s t : Int) (u : LnS) : lstp h' k last s t u = lstp h k last s t u := by
  by_cases c1 : Lal u s = 0
  · cases e : Lq u s with
    | nil => rw [lstp_none c1 e, lstp_none c1 e]
    | cons w r => rw [lstp_bend c1 e, lstp_bend c1 e]
  · by_cases c2 : t < Lfr u s
    · rw [lstp_wait c1 c2, lstp_wait c1 c2]
    · by_cases c3 : ∃ l, only (SQs h k s t (Lal u s)) l
      · obtain ⟨l, o⟩ := c3
        rw [lstp_read c1 c2 o, lstp_read c1 c2 (by rw [SQs_kp K]; exact o), passL_kp K]
      · have c3' : ¬ ∃ l, only (SQs h' k s t (Lal u s)) l := by rw [SQs_kp K]; exact c3
        by_cases c4 : t - Lfr u s = 19
        · rw [lstp_lose c1 c2 c3 c4, lstp_lose c1 c2 c3' c4]
        · rw [lstp_stay c1 c2 c3 c4, lstp_stay c1 c2 c3' c4]
theorem lshp_kp {h h' : PH} (K : Keep bkB h h') (k last t : Int) : ∀ (c : Nat) (s : Int) (u : LnS), lshp h' k last t c s u = lshp h k last t c s u
  | 0, _, _ => rfl
  | c + 1, s, u => by
    show lshp h' k last t c (s + 1) (lstp h' k last s t u) = lshp h k last t c (s + 1) (lstp h k last s t u)
    rw [lstp_kp K, lshp_kp K k last t c]
theorem lrun_kp {h h' : PH} (K : Keep bkB h h') (k last : Int) : ∀ (c : Nat) (t : Int) (u : LnS), lrun h' k last c t u = lrun h k last c t u
  | 0, _, _ => rfl
  | c + 1, t, u => by
    by_cases b : busy last u
    · rw [show lrun h' k last (c + 1) t u = lrun h' k last c (t + 1) (lshp h' k last t last.toNat 0 u) from if_pos b, show lrun h k last (c + 1) t u = lrun h k last c (t + 1) (lshp h k last t last.toNat 0 u) from if_pos b, lshp_kp K, lrun_kp K k last c]
    · rw [show lrun h' k last (c + 1) t u = u from if_neg b, show lrun h k last (c + 1) t u = u from if_neg b]
theorem line_same {h h1 h2 : PH} {last t r r' : Int} (T : LineI h) (k1 : Keep lxA h h1) (x : LineX h last t r h1) (k2 : Keep lmA h1 h2) (m : LineM h1 last t r' h2) : r = r' ∧ LineI h2 := by
  have kB := k1.wide lxA_bkB
  have e64 : ∀ i, gv h1 64 i = gv h 64 i := fun i => k1.1 64 i rfl
  have e10 : gv h1 2 10 = gv h 2 10 := k1.1 2 10 rfl
  rcases x with ⟨x1, x2, x3⟩ | ⟨x1, x2, ⟨t', x3, x4⟩, x5⟩ <;> rcases m with ⟨m1, m2, m3⟩ | ⟨m1, m2, m3⟩
  · refine ⟨by omega, T.kp (fun b i z => ?_)⟩
    rcases z with z | z | z | z
    · rw [k2.1 b i (decide_eq_false (by omega))]; exact x3 b i (by omega) (by omega)
    · rw [k2.1 b i (decide_eq_false (by omega))]; exact x3 b i (by omega) (by omega)
    · rw [m3 b i (by omega)]; exact k1.1 b i (decide_eq_false (by omega))
    · rw [m3 b i (by omega)]; exact k1.1 b i (decide_eq_false (by omega))
  · exact absurd ((lOk_kp kB e64 e10 last t).1 m1) x1
  · exact absurd ((lOk_kp kB e64 e10 last t).2 x1) m1
  · have e : lFin h1 last t = lFin h last t := by unfold lFin; rw [kb_congr kB, sH_kp kB e64 e10, lrun_kp kB]
    rw [e] at m2 m3
    have l := x1.1
    refine ⟨by omega, Or.inr ⟨last, lFin h last t, l, x2.kp (fun b i z => k2.1 b i (decide_eq_false (by omega))) l.2, m2, ?_, fun s s0 s1 => (x3.2.1 s s0 s1).2.2.2.1⟩⟩
    have y := (x3.1 (last - 1) (by omega) (by omega)).1
    have z : tau 0 t' (last - 1) ≤ t + 300 := by unfold tau; rw [if_neg (by omega)]; exact x4
    have w := y.g240 z
    rw [show last - 1 + 1 = last by omega] at w
    have := x3.2.2.2
    omega
def AlongR (h : PH) (s w r : Int) : Prop := (¬ (0 ≤ s ∧ s ≤ gv h 38 3) ∧ r = -1) ∨ ((0 ≤ s ∧ s ≤ gv h 38 3) ∧ r = if w = 0 then gv h 54 s else if w = 1 then gv h 55 s else if w = 2 then gv h 56 s else if w = 3 then gv h 57 s else -1)
theorem x_along {d : Nat} {h : PH} {q : PQ} (S : Shape h) (T : LineI h) (s w : Int) (K : ∀ r, AlongR h s w r → q (some (.inl r)) h) : Wp (d + 1) 0 0 M_X11_along 0 [some (.inr (.inr 2)), some (.inl s), some (.inl w)] [] h q := by
  have b : gv h 38 3 ≤ 9 ∧ (0 ≤ s → s ≤ gv h 38 3 → gv h 57 s = 0 ∨ gv h 57 s = 1) := by
    rcases T with ⟨a, _⟩ | ⟨last, u, l, X, M, z, lo⟩
    · exact ⟨by omega, fun _ _ => by omega⟩
    · have x1 := X.1
      refine ⟨by omega, fun s0 s1 => ?_⟩
      have y := (X.2.2.1 s s0 (by omega)).2.2.2.2.2.2
      have z := lo s s0 (by omega)
      omega
  have no : ¬ (0 ≤ s ∧ s ≤ gv h 38 3) → q (some (.inl (-1))) h := fun n => K _ (Or.inl ⟨n, rfl⟩)
  have yes : ∀ r, (0 ≤ s ∧ s ≤ gv h 38 3) → (r = if w = 0 then gv h 54 s else if w = 1 then gv h 55 s else if w = 2 then gv h 56 s else if w = 3 then gv h 57 s else -1) → q (some (.inl r)) h := fun r n e => K _ (Or.inr ⟨n, e⟩)
  refine p_iload 1 rfl rfl rfl ?_
  refine p_if_lt 4 21 rfl rfl rfl (fun c1 => ?_) (fun c1 => ?_)
  · skip
    refine p_const 22 rfl rfl ?_
    refine p_iret rfl rfl ?_
    -- leaf 1: answer [.inl (-1)] h=h 
    first | exact no (by omega) | (refine yes _ (by omega) ?_; (repeat' split) <;> omega)
  · skip
    refine p_iload 5 rfl rfl rfl ?_
    refine p_aload 6 rfl rfl rfl ?_
    refine p_getfr (j := 6) (z := 38) 9 rfl rfl rfl (tg_2 S) rfl (fi_2_6 S) ?_
    refine p_getfi (j := 3) (z := gv h 38 3) 12 rfl rfl rfl (tg_38 S) rfl rfl ?_
    refine p_ic_gt 15 21 rfl rfl rfl (fun c2 => ?_) (fun c2 => ?_)
    · skip
      refine p_const 22 rfl rfl ?_
      refine p_iret rfl rfl ?_
      -- leaf 2: answer [.inl (-1)] h=h 
      first | exact no (by omega) | (refine yes _ (by omega) ?_; (repeat' split) <;> omega)
    · skip
      refine p_iload 16 rfl rfl rfl ?_
      refine p_const 18 rfl rfl ?_
      refine p_ic_lt 21 23 rfl rfl rfl (fun c3 => ?_) (fun c3 => ?_)
      · skip
        refine p_iload 24 rfl rfl rfl ?_
        refine p_swt rfl ?_
        refine ⟨fun c4 => ?_, fun c4 => ?_⟩
        · show Wp (d + 1) 0 0 M_X11_along 56 [some (.inr (.inr 2)), some (.inl s), some (.inl w)] [] h _
          refine p_aload 57 rfl rfl rfl ?_
          refine p_getfr (j := 6) (z := 38) 60 rfl rfl rfl (tg_2 S) rfl (fi_2_6 S) ?_
          refine p_getfr (j := 10) (z := 54) 63 rfl rfl rfl (tg_38 S) rfl (fi_38_10 S) ?_
          refine p_iload 64 rfl rfl rfl ?_
          refine p_iald (w := 10) (z := gv h 54 s) 65 rfl rfl (tg_54 S) (ln_54 S) (by omega) (by omega) rfl ?_
          refine p_iret rfl rfl ?_
          -- leaf 3: answer [.inl (gv h 54 s)] h=h 
          first | exact no (by omega) | (refine yes _ (by omega) ?_; (repeat' split) <;> omega)
        · have c4_0 := c4
          refine ⟨fun c4 => ?_, fun c4 => ?_⟩
          · show Wp (d + 1) 0 0 M_X11_along 66 [some (.inr (.inr 2)), some (.inl s), some (.inl w)] [] h _
            refine p_aload 67 rfl rfl rfl ?_
            refine p_getfr (j := 6) (z := 38) 70 rfl rfl rfl (tg_2 S) rfl (fi_2_6 S) ?_
            refine p_getfr (j := 11) (z := 55) 73 rfl rfl rfl (tg_38 S) rfl (fi_38_11 S) ?_
            refine p_iload 74 rfl rfl rfl ?_
            refine p_iald (w := 10) (z := gv h 55 s) 75 rfl rfl (tg_55 S) (ln_55 S) (by omega) (by omega) rfl ?_
            refine p_iret rfl rfl ?_
            -- leaf 4: answer [.inl (gv h 55 s)] h=h 
            first | exact no (by omega) | (refine yes _ (by omega) ?_; (repeat' split) <;> omega)
          · have c4_1 := c4
            refine ⟨fun c4 => ?_, fun c4 => ?_⟩
            · show Wp (d + 1) 0 0 M_X11_along 76 [some (.inr (.inr 2)), some (.inl s), some (.inl w)] [] h _
              refine p_aload 77 rfl rfl rfl ?_
              refine p_getfr (j := 6) (z := 38) 80 rfl rfl rfl (tg_2 S) rfl (fi_2_6 S) ?_
              refine p_getfr (j := 12) (z := 56) 83 rfl rfl rfl (tg_38 S) rfl (fi_38_12 S) ?_
              refine p_iload 84 rfl rfl rfl ?_
              refine p_iald (w := 10) (z := gv h 56 s) 85 rfl rfl (tg_56 S) (ln_56 S) (by omega) (by omega) rfl ?_
              refine p_iret rfl rfl ?_
              -- leaf 5: answer [.inl (gv h 56 s)] h=h 
              first | exact no (by omega) | (refine yes _ (by omega) ?_; (repeat' split) <;> omega)
            · have c4_2 := c4
              refine ⟨fun c4 => ?_, fun c4 => ?_⟩
              · show Wp (d + 1) 0 0 M_X11_along 86 [some (.inr (.inr 2)), some (.inl s), some (.inl w)] [] h _
                refine p_aload 87 rfl rfl rfl ?_
                refine p_getfr (j := 6) (z := 38) 90 rfl rfl rfl (tg_2 S) rfl (fi_2_6 S) ?_
                refine p_getfr (j := 13) (z := 57) 93 rfl rfl rfl (tg_38 S) rfl (fi_38_13 S) ?_
                refine p_iload 94 rfl rfl rfl ?_
                refine p_bald (w := 10) (z := gv h 57 s) 95 rfl rfl (Or.inr (tg_57 S)) (ln_57 S) (by omega) (by omega) rfl ?_
                refine p_if_eq 98 102 rfl rfl rfl (fun c5 => ?_) (fun c5 => ?_)
                · skip
                  refine p_const 103 rfl rfl ?_
                  refine p_iret rfl rfl ?_
                  -- leaf 6: answer [.inl 0] h=h 
                  first | exact no (by omega) | (refine yes _ (by omega) ?_; (repeat' split) <;> omega)
                · skip
                  refine p_const 99 rfl rfl ?_
                  refine p_goto 103 rfl rfl ?_
                  refine p_iret rfl rfl ?_
                  -- leaf 7: answer [.inl 1] h=h 
                  first | exact no (by omega) | (refine yes _ (by omega) ?_; (repeat' split) <;> omega)
              · have c4_3 := c4
                show Wp (d + 1) 0 0 M_X11_along 104 [some (.inr (.inr 2)), some (.inl s), some (.inl w)] [] h _
                refine p_const 105 rfl rfl ?_
                refine p_iret rfl rfl ?_
                -- leaf 8: answer [.inl (-1)] h=h 
                first | exact no (by omega) | (refine yes _ (by omega) ?_; (repeat' split) <;> omega)
      · skip
        refine p_const 22 rfl rfl ?_
        refine p_iret rfl rfl ?_
        -- leaf 9: answer [.inl (-1)] h=h 
        first | exact no (by omega) | (refine yes _ (by omega) ?_; (repeat' split) <;> omega)
theorem m_along {d : Nat} {h : PH} {q : PQ} (S : Shape h) (T : LineI h) (s w : Int) (K : ∀ r, AlongR h s w r → q (some (.inl r)) h) : Wp (d + 2) 0 0 M_X12_along 0 [some (.inr (.inr 66)), some (.inl s), some (.inl w)] [] h q := by
  have no : ¬ (0 ≤ s ∧ s ≤ gv h 38 3) → q (some (.inl (-1))) h := fun n => K _ (Or.inl ⟨n, rfl⟩)
  have yes : ∀ r, (0 ≤ s ∧ s ≤ gv h 38 3) → (r = if w = 0 then gv h 54 s else if w = 1 then gv h 55 s else if w = 2 then gv h 56 s else if w = 3 then gv h 57 s else -1) → q (some (.inl r)) h := fun r n e => K _ (Or.inr ⟨n, e⟩)
  rcases T with ⟨a, _, c⟩ | ⟨last, u, l, X, M, z, lo⟩
  · skip
    refine p_aload 1 rfl rfl rfl ?_
    refine p_getfz (j := 70) (z := 0) 4 rfl rfl rfl (tg_66 S) rfl c ?_
    refine p_if_eq_t 21 rfl rfl (by decide) ?_
    refine p_const 22 rfl rfl ?_
    refine p_iret rfl rfl ?_
    -- leaf 1: answer [.inl (-1)] h=h 
    exact no (by omega)
  · have x1 := X.1
    obtain ⟨⟨m1, m2⟩, _⟩ := id M
    have cs : 0 ≤ s → s ≤ last → gv h 120 s = gv h 54 s ∧ gv h 121 s = gv h 55 s ∧ gv h 122 s = gv h 56 s ∧ gv h 123 s = gv h 57 s ∧ (gv h 57 s = 0 ∨ gv h 57 s = 1) := fun s0 s1 => by
      obtain ⟨_, _, _, y4, y5, y6, y7⟩ := X.2.2.1 s s0 s1
      obtain ⟨_, _, z4, z5, z6, z7⟩ := M.2.2.1 s s0 s1
      have := lo s s0 s1
      exact ⟨z4.trans y4.symm, z5.trans y5.symm, z6.trans y6.symm, z7.trans y7.symm, by omega⟩
    refine p_aload 1 rfl rfl rfl ?_
    refine p_getfz (j := 70) (z := 1) 4 rfl rfl rfl (tg_66 S) rfl m2 ?_
    refine p_if_eq_f 7 rfl rfl (by decide) ?_
    refine p_iload 8 rfl rfl rfl ?_
    refine p_i2l 9 rfl rfl ?_
    refine p_lconst 10 rfl rfl ?_
    refine p_aload 11 rfl rfl rfl ?_
    refine p_getfi (j := 71) (z := last) 14 rfl rfl rfl (tg_66 S) rfl m1 ?_
    refine p_i2l 15 rfl rfl ?_
    refine p_calls (le := [some (.inr (.inl s)), none, some (.inr (.inl 0)), none, some (.inr (.inl last)), none]) (as := [.inr (.inl s), .inr (.inl 0), .inr (.inl last)]) (rest := []) 18 0 0 0 0 rfl rfl (Nat.le_of_ble_eq_true rfl) rfl (Nat.le_of_ble_eq_true rfl) rfl rfl (Nat.le_of_ble_eq_true rfl) rfl (Nat.le_of_ble_eq_true rfl) rfl (Nat.le_refl _) (Nat.le_refl _) rfl rfl ?_
    refine m_isIn S s 0 last  (fun c1 => ?_) (fun c1 => ?_)
    · show Wp (d + 2) 0 0 M_X12_along 18 [some (.inr (.inr 66)), some (.inl s), some (.inl w)] [.inl 1] h _
      refine p_if_ne_t 23 rfl rfl (by decide) ?_
      refine p_iload 24 rfl rfl rfl ?_
      refine p_if_ne 27 36 rfl rfl rfl (fun c2 => ?_) (fun c2 => ?_)
      · skip
        refine p_iload 37 rfl rfl rfl ?_
        refine p_const 38 rfl rfl ?_
        refine p_ic_ne 41 50 rfl rfl rfl (fun c3 => ?_) (fun c3 => ?_)
        · skip
          refine p_iload 51 rfl rfl rfl ?_
          refine p_const 52 rfl rfl ?_
          refine p_ic_ne 55 64 rfl rfl rfl (fun c4 => ?_) (fun c4 => ?_)
          · skip
            refine p_iload 65 rfl rfl rfl ?_
            refine p_const 66 rfl rfl ?_
            refine p_ic_ne 69 86 rfl rfl rfl (fun c5 => ?_) (fun c5 => ?_)
            · skip
              refine p_const 87 rfl rfl ?_
              refine p_iret rfl rfl ?_
              -- leaf 1: answer [.inl (-1)] h=h 
              first | exact no (by omega) | (have cs := cs (by omega) (by omega); refine yes _ (by omega) ?_; (repeat' split) <;> omega)
            · skip
              refine p_aload 70 rfl rfl rfl ?_
              refine p_getfr (j := 80) (z := 123) 73 rfl rfl rfl (tg_66 S) rfl (fi_66_80 S) ?_
              refine p_iload 74 rfl rfl rfl ?_
              refine p_bald (w := 10) (z := gv h 123 s) 75 rfl rfl (Or.inr (tg_123 S)) (ln_123 S) (by omega) (by omega) rfl ?_
              refine p_if_eq 78 82 rfl rfl rfl (fun c6 => ?_) (fun c6 => ?_)
              · skip
                refine p_const 83 rfl rfl ?_
                refine p_goto 87 rfl rfl ?_
                refine p_iret rfl rfl ?_
                -- leaf 2: answer [.inl 0] h=h 
                first | exact no (by omega) | (have cs := cs (by omega) (by omega); refine yes _ (by omega) ?_; (repeat' split) <;> omega)
              · skip
                refine p_const 79 rfl rfl ?_
                refine p_goto 87 rfl rfl ?_
                refine p_iret rfl rfl ?_
                -- leaf 3: answer [.inl 1] h=h 
                first | exact no (by omega) | (have cs := cs (by omega) (by omega); refine yes _ (by omega) ?_; (repeat' split) <;> omega)
          · skip
            refine p_aload 56 rfl rfl rfl ?_
            refine p_getfr (j := 79) (z := 122) 59 rfl rfl rfl (tg_66 S) rfl (fi_66_79 S) ?_
            refine p_iload 60 rfl rfl rfl ?_
            refine p_iald (w := 10) (z := gv h 122 s) 61 rfl rfl (tg_122 S) (ln_122 S) (by omega) (by omega) rfl ?_
            refine p_goto 87 rfl rfl ?_
            refine p_iret rfl rfl ?_
            -- leaf 4: answer [.inl (gv h 122 s)] h=h 
            first | exact no (by omega) | (have cs := cs (by omega) (by omega); refine yes _ (by omega) ?_; (repeat' split) <;> omega)
        · skip
          refine p_aload 42 rfl rfl rfl ?_
          refine p_getfr (j := 78) (z := 121) 45 rfl rfl rfl (tg_66 S) rfl (fi_66_78 S) ?_
          refine p_iload 46 rfl rfl rfl ?_
          refine p_iald (w := 10) (z := gv h 121 s) 47 rfl rfl (tg_121 S) (ln_121 S) (by omega) (by omega) rfl ?_
          refine p_goto 87 rfl rfl ?_
          refine p_iret rfl rfl ?_
          -- leaf 5: answer [.inl (gv h 121 s)] h=h 
          first | exact no (by omega) | (have cs := cs (by omega) (by omega); refine yes _ (by omega) ?_; (repeat' split) <;> omega)
      · skip
        refine p_aload 28 rfl rfl rfl ?_
        refine p_getfr (j := 77) (z := 120) 31 rfl rfl rfl (tg_66 S) rfl (fi_66_77 S) ?_
        refine p_iload 32 rfl rfl rfl ?_
        refine p_iald (w := 10) (z := gv h 120 s) 33 rfl rfl (tg_120 S) (ln_120 S) (by omega) (by omega) rfl ?_
        refine p_goto 87 rfl rfl ?_
        refine p_iret rfl rfl ?_
        -- leaf 6: answer [.inl (gv h 120 s)] h=h 
        first | exact no (by omega) | (have cs := cs (by omega) (by omega); refine yes _ (by omega) ?_; (repeat' split) <;> omega)
    · show Wp (d + 2) 0 0 M_X12_along 18 [some (.inr (.inr 66)), some (.inl s), some (.inl w)] [.inl 0] h _
      refine p_if_ne_f 21 rfl rfl (by decide) ?_
      refine p_const 22 rfl rfl ?_
      refine p_iret rfl rfl ?_
      -- leaf 7: answer [.inl (-1)] h=h 
      first | exact no (by omega) | (have cs := cs (by omega) (by omega); refine yes _ (by omega) ?_; (repeat' split) <;> omega)
def HeardR (h : PH) (k r : Int) : Prop := r = if 0 ≤ k ∧ k < gv h 38 15 then gv h 58 k else -1
theorem x_heard {d : Nat} {h : PH} {q : PQ} (S : Shape h) (T : LineI h) (k : Int) (K : ∀ r, HeardR h k r → q (some (.inl r)) h) : Wp (d + 1) 0 0 M_X11_heard 0 [some (.inr (.inr 2)), some (.inl k)] [] h q := by
  unfold HeardR at K
  have b : gv h 38 15 ≤ 240 := by
    rcases T with ⟨_, a, _⟩ | ⟨last, u, l, X, M, z, lo⟩
    · omega
    · have := X.2.2.2.1; omega
  refine p_iload 1 rfl rfl rfl ?_
  refine p_if_lt 4 39 rfl rfl rfl (fun c1 => ?_) (fun c1 => ?_)
  · skip
    refine p_const 40 rfl rfl ?_
    refine p_iret rfl rfl ?_
    -- leaf 1: answer [.inl (-1)] h=h 
    first | (exfalso; omega) | exact K _ (by rw [if_neg (by omega)]) | exact K _ (by rw [if_pos (by omega)])
  · skip
    refine p_iload 5 rfl rfl rfl ?_
    refine p_aload 6 rfl rfl rfl ?_
    refine p_getfr (j := 6) (z := 38) 9 rfl rfl rfl (tg_2 S) rfl (fi_2_6 S) ?_
    refine p_getfi (j := 15) (z := gv h 38 15) 12 rfl rfl rfl (tg_38 S) rfl rfl ?_
    refine p_ic_ge 15 39 rfl rfl rfl (fun c2 => ?_) (fun c2 => ?_)
    · skip
      refine p_const 40 rfl rfl ?_
      refine p_iret rfl rfl ?_
      -- leaf 2: answer [.inl (-1)] h=h 
      first | (exfalso; omega) | exact K _ (by rw [if_neg (by omega)]) | exact K _ (by rw [if_pos (by omega)])
    · skip
      refine p_iload 16 rfl rfl rfl ?_
      refine p_aload 17 rfl rfl rfl ?_
      refine p_getfr (j := 6) (z := 38) 20 rfl rfl rfl (tg_2 S) rfl (fi_2_6 S) ?_
      refine p_getfr (j := 14) (z := 58) 23 rfl rfl rfl (tg_38 S) rfl (fi_38_14 S) ?_
      refine p_alen (w := 240) 24 rfl rfl (by rw [(tg_58 S)]; decide) (ln_58 S) ?_
      refine p_ic_ge 27 39 rfl rfl rfl (fun c3 => ?_) (fun c3 => ?_)
      · skip
        refine p_const 40 rfl rfl ?_
        refine p_iret rfl rfl ?_
        -- leaf 3: answer [.inl (-1)] h=h 
        first | (exfalso; omega) | exact K _ (by rw [if_neg (by omega)]) | exact K _ (by rw [if_pos (by omega)])
      · skip
        refine p_aload 28 rfl rfl rfl ?_
        refine p_getfr (j := 6) (z := 38) 31 rfl rfl rfl (tg_2 S) rfl (fi_2_6 S) ?_
        refine p_getfr (j := 14) (z := 58) 34 rfl rfl rfl (tg_38 S) rfl (fi_38_14 S) ?_
        refine p_iload 35 rfl rfl rfl ?_
        refine p_iald (w := 240) (z := gv h 58 k) 36 rfl rfl (tg_58 S) (ln_58 S) (by omega) (by omega) rfl ?_
        refine p_goto 40 rfl rfl ?_
        refine p_iret rfl rfl ?_
        -- leaf 4: answer [.inl (gv h 58 k)] h=h 
        first | (exfalso; omega) | exact K _ (by rw [if_neg (by omega)]) | exact K _ (by rw [if_pos (by omega)])
theorem m_heard {d : Nat} {h : PH} {q : PQ} (S : Shape h) (T : LineI h) (k : Int) (K : ∀ r, HeardR h k r → q (some (.inl r)) h) : Wp (d + 1) 0 0 M_X12_heard 0 [some (.inr (.inr 66)), some (.inl k)] [] h q := by
  unfold HeardR at K
  rcases T with ⟨a, b, c⟩ | ⟨last, u, l, X, M, z, lo⟩
  · skip
    refine p_aload 1 rfl rfl rfl ?_
    refine p_getfz (j := 70) (z := 0) 4 rfl rfl rfl (tg_66 S) rfl c ?_
    refine p_if_eq_t 28 rfl rfl (by decide) ?_
    refine p_const 29 rfl rfl ?_
    refine p_iret rfl rfl ?_
    -- leaf 1: answer [.inl (-1)] h=h 
    first | (exfalso; omega) | exact K _ (by rw [if_neg (by omega)])
  · obtain ⟨⟨m1, m2⟩, _⟩ := id M
    have x15 := X.2.2.2.1
    have m81 := M.2.2.2.1
    have e : 0 ≤ k → k < gv h 38 15 → gv h 124 k = gv h 58 k := fun k0 k1 => by
      have y1 := X.2.2.2.2 k.toNat _ (List.getElem?_eq_getElem (by omega))
      have y2 := M.2.2.2.2 k.toNat _ (List.getElem?_eq_getElem (by omega))
      rw [Int.toNat_of_nonneg k0] at y1 y2
      rw [y1, y2]
    refine p_aload 1 rfl rfl rfl ?_
    refine p_getfz (j := 70) (z := 1) 4 rfl rfl rfl (tg_66 S) rfl m2 ?_
    refine p_if_eq_f 7 rfl rfl (by decide) ?_
    refine p_iload 8 rfl rfl rfl ?_
    refine p_if_lt 11 28 rfl rfl rfl (fun c1 => ?_) (fun c1 => ?_)
    · skip
      refine p_const 29 rfl rfl ?_
      refine p_iret rfl rfl ?_
      -- leaf 1: answer [.inl (-1)] h=h 
      first | (exfalso; omega) | exact K _ (by rw [if_neg (by omega)]) | exact K _ (by rw [if_pos (by omega)]; exact e (by omega) (by omega))
    · skip
      refine p_iload 12 rfl rfl rfl ?_
      refine p_aload 13 rfl rfl rfl ?_
      refine p_getfi (j := 81) (z := gv h 66 81) 16 rfl rfl rfl (tg_66 S) rfl rfl ?_
      refine p_ic_ge 19 28 rfl rfl rfl (fun c2 => ?_) (fun c2 => ?_)
      · skip
        refine p_const 29 rfl rfl ?_
        refine p_iret rfl rfl ?_
        -- leaf 2: answer [.inl (-1)] h=h 
        first | (exfalso; omega) | exact K _ (by rw [if_neg (by omega)]) | exact K _ (by rw [if_pos (by omega)]; exact e (by omega) (by omega))
      · skip
        refine p_aload 20 rfl rfl rfl ?_
        refine p_getfr (j := 82) (z := 124) 23 rfl rfl rfl (tg_66 S) rfl (fi_66_82 S) ?_
        refine p_iload 24 rfl rfl rfl ?_
        refine p_iald (w := 640) (z := gv h 124 k) 25 rfl rfl (tg_124 S) (ln_124 S) (by omega) (by omega) rfl ?_
        refine p_goto 29 rfl rfl ?_
        refine p_iret rfl rfl ?_
        -- leaf 3: answer [.inl (gv h 124 k)] h=h 
        first | (exfalso; omega) | exact K _ (by rw [if_neg (by omega)]) | exact K _ (by rw [if_pos (by omega)]; exact e (by omega) (by omega))

