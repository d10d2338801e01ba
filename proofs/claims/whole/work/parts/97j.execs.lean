/-! THE CONSTRUCTORS: one step of the run over lists, and why it is sound -/
def icB (c : ClassFile.Cond) (x y : Int) : Bool := match c with
  | .eq => decide (x = y)
  | .ne => decide (x ≠ y)
  | .lt => decide (x < y)
  | .ge => decide (¬ x < y)
  | .gt => decide (y < x)
  | .le => decide (¬ y < x)
theorem icB_iff (c : ClassFile.Cond) (x y : Int) : icB c x y = true ↔ iCnd c x y := by
  cases c <;> exact decide_eq_true_iff
abbrev XRec := Nat → Nat → Nat → Nat → Nat → List (Option PV) → List PV → HR2 → XR
def okK (k : Nat) (v : PV) : Option Int := match k, v with
  | 0, .inl x => some x
  | 2, .inr (.inr x) => some x
  | _, _ => none
def recB (R : HR2) (c : Nat) : Option PV → Bool
  | some (.inr (.inr a)) => decide (tgR R a = (c : Int))
  | _ => false
def exCall (f : XRec) (k kind n d rc rs m pc : Nat) (ls : List (Option PV)) (st : List PV) (R : HR2) : XR :=
  if k < M_L_law ∧ mK k = kind ∧ mN k ≤ st.length ∧ 0 < d ∧ (aCS k).1 ≤ rc ∧ (aCS k).2 ≤ rs ∧ catS (st.drop (mN k)) ≤ 8 ∧ (entL (st.take (mN k)).reverse).length ≤ mML k ∧ (kind = 0 ∨ recB R (mC k) st[mN k - 1]? = true) then
    match f (d - 1) (aCS k).1 (aCS k).2 k 0 (entry k (st.take (mN k)).reverse) [] R with
    | some (r, R') => f d (rc - (aCS k).1) (rs - (aCS k).2) m (pc + n) ls (r.toList ++ st.drop (mN k)) R'
    | none => none
  else none
def exB (f : XRec) (d rc rs m pc : Nat) (ls : List (Option PV)) (st : List PV) (R : HR2) : XR := match codeAt m pc with
  | none => none
  | some (.bipush x, n) => f d rc rs m (pc + n) ls (.inl x :: st) R
  | some (.iload k, n) => match ls[k]? with
    | some (some (.inl x)) => f d rc rs m (pc + n) ls (.inl x :: st) R
    | _ => none
  | some (.aload k, n) => match ls[k]? with
    | some (some (.inr (.inr x))) => f d rc rs m (pc + n) ls (.inr (.inr x) :: st) R
    | _ => none
  | some (.istore k, n) => match st with
    | .inl x :: r => if k < ls.length then f d rc rs m (pc + n) (st1 ls k (.inl x)) r R else none
    | _ => none
  | some (.iinc k c, n) => match ls[k]? with
    | some (some (.inl x)) => f d rc rs m (pc + n) (st1 ls k (.inl (w32 (x + c)))) st R
    | _ => none
  | some (.if_icmp c t, n) => match st with
    | .inl y :: .inl x :: r => if icB c x y then f d rc rs m t.toNat ls r R else f d rc rs m (pc + n) ls r R
    | _ => none
  | some (.goto t, _) => f d rc rs m t.toNat ls st R
  | some (.dup, n) => match st with
    | .inl x :: r => f d rc rs m (pc + n) ls (.inl x :: .inl x :: r) R
    | .inr (.inr x) :: r => f d rc rs m (pc + n) ls (.inr (.inr x) :: .inr (.inr x) :: r) R
    | _ => none
  | some (.getfield g, n) => match st with
    | .inr (.inr a) :: r => if tgR R a = ((g / 100 : Nat) : Int) then f d rc rs m (pc + n) ls (mkv (fk g) (lkS R.2 a ((g % 100 : Nat) : Int)) :: r) R else none
    | _ => none
  | some (.putfield g, n) => match st with
    | v :: .inr (.inr a) :: r => match okK (fk g) v with
      | some x => if tgR R a = ((g / 100 : Nat) : Int) ∧ (ff g = true → mK m = 2 ∧ mC m = g / 100) then f d rc rs m (pc + n) ls r (stR R a ((g % 100 : Nat) : Int) x) else none
      | none => none
    | _ => none
  | some (.iastore, n) => match st with
    | .inl x :: .inl i :: .inr (.inr a) :: r => if tgR R a = 100 ∧ 0 ≤ i ∧ i < lnR R a then f d rc rs m (pc + n) ls r (stR R a i x) else none
    | _ => none
  | some (.castore, n) => match st with
    | .inl x :: .inl i :: .inr (.inr a) :: r => if tgR R a = 104 ∧ (0 ≤ x ∧ x < 65536) ∧ 0 ≤ i ∧ i < lnR R a then f d rc rs m (pc + n) ls r (stR R a i x) else none
    | _ => none
  | some (.arraylength, n) => match st with
    | .inr (.inr a) :: r => if 100 ≤ tgR R a then f d rc rs m (pc + n) ls (.inl (lnR R a) :: r) R else none
    | _ => none
  | some (.new c, n) => if c < 13 ∧ 1 ≤ rc ∧ fN c ≤ rs then f d (rc - 1) (rs - fN c) m (pc + n) ls (.inr (.inr (nxR R)) :: st) (alR R (c : Int) (fN c : Int)) else none
  | some (.newarray t, n) => match st with
    | .inl k :: r => if 0 ≤ atc t ∧ 0 ≤ k ∧ 1 ≤ rc ∧ k.toNat ≤ rs then f d (rc - 1) (rs - k.toNat) m (pc + n) ls (.inr (.inr (nxR R)) :: r) (alR R (atc t) k) else none
    | _ => none
  | some (.anewarray _, n) => match st with
    | .inl k :: r => if 0 ≤ k ∧ 1 ≤ rc ∧ k.toNat ≤ rs then f d (rc - 1) (rs - k.toNat) m (pc + n) ls (.inr (.inr (nxR R)) :: r) (alR R 105 k) else none
    | _ => none
  | some (.multianewarray _ _, n) => match st with
    | .inl k :: .inl j :: r => if 0 ≤ j ∧ 0 ≤ k ∧ k ≤ 65536 ∧ 1 + j.toNat ≤ rc ∧ j.toNat + j.toNat * k.toNat ≤ rs then f d (rc - (1 + j.toNat)) (rs - (j.toNat + j.toNat * k.toNat)) m (pc + n) ls (.inr (.inr (nxR R)) :: r) (al2R R j.toNat k.toNat) else none
    | _ => none
  | some (.invokespecial k, n) => if k = 9999 then match st with
      | .inr (.inr a) :: r => if 0 < a ∧ 0 < d ∧ catS r ≤ 8 then f d rc rs m (pc + n) ls r R else none
      | _ => none
    else exCall f k 2 n d rc rs m pc ls st R
  | some (.invokestatic k, n) => exCall f k 0 n d rc rs m pc ls st R
  | some (.return_, _) => if st = [] ∧ mR m = 0 then some (none, R) else none
  | some _ => none
def ex : Nat → XRec
  | 0 => fun _ _ _ _ _ _ _ _ => none
  | k + 1 => exB (ex k)
def XS (h0 : PH) (f : XRec) : Prop := ∀ d rc rs m pc ls st R r R' h (q : PQ), f d rc rs m pc ls st R = some (r, R') → Rp h0 R h → (∀ h', Rp h0 R' h' → q r h') → Wp d rc rs m pc ls st h q
theorem rec_ok {h0 h : PH} {R : HR2} (P : Rp h0 R h) {c : Nat} {v : Option PV} (e : recB R c v = true) : recv h c v := by
  match v, e with
  | some (.inr (.inr a)), e => exact (rp_tg P (of_decide_eq_true e) (Int.natCast_nonneg _)).1
theorem exCall_ok {h0 : PH} {f : XRec} (F : XS h0 f) {k kind n d rc rs m pc : Nat} {ls : List (Option PV)} {st : List PV} {R R' : HR2} {r : Option PV} {h : PH} {q : PQ} (e : exCall f k kind n d rc rs m pc ls st R = some (r, R')) (P : Rp h0 R h) (Q : ∀ h', Rp h0 R' h' → q r h') : callP Wp k kind n d rc rs m pc ls st h q := by
  unfold exCall at e
  by_cases z : k < M_L_law ∧ mK k = kind ∧ mN k ≤ st.length ∧ 0 < d ∧ (aCS k).1 ≤ rc ∧ (aCS k).2 ≤ rs ∧ catS (st.drop (mN k)) ≤ 8 ∧ (entL (st.take (mN k)).reverse).length ≤ mML k ∧ (kind = 0 ∨ recB R (mC k) st[mN k - 1]? = true)
  · rw [if_pos z] at e
    obtain ⟨z1, z2, z3, z4, z5, z6, z7, z8, z9⟩ := z
    cases hf : f (d - 1) (aCS k).1 (aCS k).2 k 0 (entry k (st.take (mN k)).reverse) [] R with
    | none => rw [hf] at e; cases e
    | some v =>
      obtain ⟨r1, R1⟩ := v
      rw [hf] at e
      have e : f d (rc - (aCS k).1) (rs - (aCS k).2) m (pc + n) ls (r1.toList ++ st.drop (mN k)) R1 = some (r, R') := e
      refine ⟨z1, z2, z3, z4, z5, z6, z7, z8, fun ne => ?_, fun r' h' => r' = r1 ∧ Rp h0 R1 h', F _ _ _ _ _ _ _ _ _ _ _ _ hf P (fun h' P' => ⟨rfl, P'⟩), fun r' h' y => ?_⟩
      · rcases z9 with y | y
        · exact absurd y ne
        · exact rec_ok P y
      · rw [y.1]
        exact F _ _ _ _ _ _ _ _ _ _ _ _ e y.2 Q
  · rw [if_neg z] at e; cases e
theorem exB_ok {h0 : PH} {f : XRec} (F : XS h0 f) : XS h0 (exB f) := by
  intro d rc rs m pc ls st R r R' h q e P Q
  have n2 : 2 ≤ nxR R := by unfold nxR; omega
  have pn := P.1
  unfold exB at e
  cases hc : codeAt m pc with
  | none => rw [hc] at e; cases e
  | some v =>
    rw [hc] at e
    refine Wp_fold ?_
    unfold pF
    rw [hc]
    clear hc
    split at e
    · cases e
    · rename_i x n hv; cases hv
      exact F _ _ _ _ _ _ _ _ _ _ _ _ e P Q
    · rename_i k n hv; cases hv
      split at e
      · rename_i x hx
        show lod ls k _
        unfold lod
        rw [hx]
        exact F _ _ _ _ _ _ _ _ _ _ _ _ e P Q
      · cases e
    · rename_i k n hv; cases hv
      split at e
      · rename_i x hx
        show lod ls k _
        unfold lod
        rw [hx]
        exact F _ _ _ _ _ _ _ _ _ _ _ _ e P Q
      · cases e
    · rename_i k n hv; cases hv
      split at e
      · rename_i x r0
        by_cases z : k < ls.length
        · rw [if_pos z] at e
          exact ⟨z, F _ _ _ _ _ _ _ _ _ _ _ _ e P Q⟩
        · rw [if_neg z] at e; cases e
      · cases e
    · rename_i k c n hv; cases hv
      split at e
      · rename_i x hx
        show lod ls k _
        unfold lod
        rw [hx]
        exact F _ _ _ _ _ _ _ _ _ _ _ _ e P Q
      · cases e
    · rename_i c t n hv; cases hv
      split at e
      · rename_i y x r0
        refine ⟨fun z => ?_, fun z => ?_⟩
        · rw [if_pos ((icB_iff c x y).2 z)] at e
          exact F _ _ _ _ _ _ _ _ _ _ _ _ e P Q
        · rw [if_neg (fun w => z ((icB_iff c x y).1 w))] at e
          exact F _ _ _ _ _ _ _ _ _ _ _ _ e P Q
      · cases e
    · rename_i t n hv; cases hv
      exact F _ _ _ _ _ _ _ _ _ _ _ _ e P Q
    · rename_i n hv; cases hv
      split at e
      · exact ⟨fun _ z => (by cases z), F _ _ _ _ _ _ _ _ _ _ _ _ e P Q⟩
      · exact ⟨fun _ z => (by cases z), F _ _ _ _ _ _ _ _ _ _ _ _ e P Q⟩
      · cases e
    · rename_i g n hv; cases hv
      split at e
      · rename_i a r0
        by_cases z : tgR R a = ((g / 100 : Nat) : Int)
        · rw [if_pos z] at e
          obtain ⟨t1, t2, t3, t4⟩ := rp_tg P z (Int.natCast_nonneg _)
          refine ⟨t1, ?_⟩
          rw [P.2.2.1 a _ t2 (Int.natCast_nonneg _)]
          exact F _ _ _ _ _ _ _ _ _ _ _ _ e P Q
        · rw [if_neg z] at e; cases e
      · cases e
    · rename_i g n hv; cases hv
      split at e
      · rename_i v a r0
        split at e
        · rename_i x hx
          by_cases z : tgR R a = ((g / 100 : Nat) : Int) ∧ (ff g = true → mK m = 2 ∧ mC m = g / 100)
          · rw [if_pos z] at e
            obtain ⟨t1, t2, t3, t4⟩ := rp_tg P z.1 (Int.natCast_nonneg _)
            refine ⟨t1, z.2, ?_⟩
            have go := F _ _ _ _ _ _ _ _ _ _ _ _ e (rp_st P (i := ((g % 100 : Nat) : Int)) (v := x) t2 t3) Q
            unfold okK at hx
            split at hx
            · rename_i hk; cases hx
              show isK (fk g) _ _
              rw [hk]; exact go
            · rename_i hk; cases hx
              show isK (fk g) _ _
              rw [hk]; exact go
            · cases hx
          · rw [if_neg z] at e; cases e
        · cases e
      · cases e
    · rename_i n hv; cases hv
      split at e
      · rename_i x i a r0
        by_cases z : tgR R a = 100 ∧ 0 ≤ i ∧ i < lnR R a
        · rw [if_pos z] at e
          obtain ⟨t1, t2, t3, t4⟩ := rp_tg P z.1 (by decide)
          exact ⟨t2, t1, z.2.1, by rw [t4]; exact z.2.2, F _ _ _ _ _ _ _ _ _ _ _ _ e (rp_st P t2 t3) Q⟩
        · rw [if_neg z] at e; cases e
      · cases e
    · rename_i n hv; cases hv
      split at e
      · rename_i x i a r0
        by_cases z : tgR R a = 104 ∧ (0 ≤ x ∧ x < 65536) ∧ 0 ≤ i ∧ i < lnR R a
        · rw [if_pos z] at e
          obtain ⟨t1, t2, t3, t4⟩ := rp_tg P z.1 (by decide)
          exact ⟨t2, t1, z.2.1.1, z.2.1.2, z.2.2.1, by rw [t4]; exact z.2.2.2, F _ _ _ _ _ _ _ _ _ _ _ _ e (rp_st P t2 t3) Q⟩
        · rw [if_neg z] at e; cases e
      · cases e
    · rename_i n hv; cases hv
      split at e
      · rename_i a r0
        by_cases z : 100 ≤ tgR R a
        · rw [if_pos z] at e
          obtain ⟨t1, t2, t3, t4⟩ := rp_tg P (t := tgR R a) rfl (by omega)
          refine ⟨by rw [t1]; exact z, ?_⟩
          rw [t4]
          exact F _ _ _ _ _ _ _ _ _ _ _ _ e P Q
        · rw [if_neg z] at e; cases e
      · cases e
    · rename_i c n hv; cases hv
      by_cases z : c < 13 ∧ 1 ≤ rc ∧ fN c ≤ rs
      · rw [if_pos z] at e
        refine ⟨z.1, z.2.1, z.2.2, ?_⟩
        rw [pn]
        exact F _ _ _ _ _ _ _ _ _ _ _ _ e (rp_al P _ _) Q
      · rw [if_neg z] at e; cases e
    · rename_i t n hv; cases hv
      split at e
      · rename_i k r0
        by_cases z : 0 ≤ atc t ∧ 0 ≤ k ∧ 1 ≤ rc ∧ k.toNat ≤ rs
        · rw [if_pos z] at e
          refine ⟨z.1, z.2.1, z.2.2.1, z.2.2.2, ?_⟩
          rw [pn]
          exact F _ _ _ _ _ _ _ _ _ _ _ _ e (rp_al P _ _) Q
        · rw [if_neg z] at e; cases e
      · cases e
    · rename_i i n hv; cases hv
      split at e
      · rename_i k r0
        by_cases z : 0 ≤ k ∧ 1 ≤ rc ∧ k.toNat ≤ rs
        · rw [if_pos z] at e
          refine ⟨z.1, z.2.1, z.2.2, ?_⟩
          rw [pn]
          exact F _ _ _ _ _ _ _ _ _ _ _ _ e (rp_al P _ _) Q
        · rw [if_neg z] at e; cases e
      · cases e
    · rename_i i w n hv; cases hv
      split at e
      · rename_i k j r0
        by_cases z : 0 ≤ j ∧ 0 ≤ k ∧ k ≤ 65536 ∧ 1 + j.toNat ≤ rc ∧ j.toNat + j.toNat * k.toNat ≤ rs
        · rw [if_pos z] at e
          refine ⟨z.1, z.2.1, z.2.2.1, z.2.2.2.1, z.2.2.2.2, ?_⟩
          have ej : ((j.toNat : Nat) : Int) = j := Int.toNat_of_nonneg z.1
          have ek : ((k.toNat : Nat) : Int) = k := Int.toNat_of_nonneg z.2.1
          have y := rp_al2 P j.toNat k.toNat
          rw [ej, ek] at y
          rw [pn]
          exact F _ _ _ _ _ _ _ _ _ _ _ _ e y Q
        · rw [if_neg z] at e; cases e
      · cases e
    · rename_i k n hv; cases hv
      show (if k = 9999 then _ else callP Wp k 2 n d rc rs m pc ls st h q)
      by_cases z : k = 9999
      · rw [if_pos z] at e ⊢
        split at e
        · rename_i a r0
          by_cases y : 0 < a ∧ 0 < d ∧ catS r0 ≤ 8
          · rw [if_pos y] at e
            exact ⟨y.1, y.2.1, y.2.2, F _ _ _ _ _ _ _ _ _ _ _ _ e P Q⟩
          · rw [if_neg y] at e; cases e
        · cases e
      · rw [if_neg z] at e ⊢
        exact exCall_ok F e P Q
    · rename_i k n hv; cases hv
      exact exCall_ok F e P Q
    · rename_i n hv; cases hv
      by_cases z : st = [] ∧ mR m = 0
      · rw [if_pos z] at e
        cases e
        exact ⟨z.1, z.2, Q h P⟩
      · rw [if_neg z] at e; cases e
    · cases e
theorem ex_ok (h0 : PH) : ∀ k : Nat, XS h0 (ex k)
  | 0 => fun d rc rs m pc ls st R r R' h q e => by cases e
  | k + 1 => exB_ok (ex_ok h0 k)

