/-! HOW THE MACHINE'S HEAP HOLDS THE PURE ONE: thing 1 is the script (cell sb), thing a (2 and on) is the cell bs + a - 2 -/
def adr (bs sb : Nat) (a : Int) : Nat := if a = 1 then sb else bs + (a - 2).toNat
def cv (bs sb : Nat) : PV → Value
  | .inl x => .int (Int32.ofInt x)
  | .inr (.inl x) => .long (Int64.ofInt x)
  | .inr (.inr a) => if a = 0 then .null else .ref (adr bs sb a)
def rfo (bs sb : Nat) (a : Int) : Option Nat := if a = 0 then none else some (adr bs sb a)
def okx (n : Int) (k : Nat) (x : Int) : Prop := match k with
  | 0 => i32 x
  | 1 => i64 x
  | 2 => 0 ≤ x ∧ x < n
  | 3 => 0 ≤ x ∧ x ≤ 1
  | 4 => -128 ≤ x ∧ x < 128
  | _ => 0 ≤ x ∧ x < 65536
def okv (n : Int) : PV → Prop
  | .inl x => i32 x
  | .inr (.inl x) => i64 x
  | .inr (.inr a) => 0 ≤ a ∧ a < n
def ek (t : Int) : Nat := if t = 101 then 1 else if t = 102 then 4 else if t = 103 then 3 else if t = 104 then 5 else if 105 ≤ t then 2 else 0
def aty (t : Int) : FieldType := if t = 101 then .long else if t = 102 then .byte else if t = 103 then .boolean else if t = 104 then .char else if t = 105 then .object "SquadronFlags$Book" else if t = 106 then .array .int else .int
def tysD (dA : Nat → ClassId) : List (ClassId × FieldType) := [(dA 0, .int), (dA 1, .long), (dA 2, .byte), (dA 3, .boolean), (dA 4, .char), (dA 5, .object "SquadronFlags$Book"), (dA 6, .array .int)]
def arE (dA : Nat → ClassId) (bs sb : Nat) (t n : Int) (f : Int → Int) : Cell := arrV (dA (t.toNat - 100)) n.toNat (fun j => cv bs sb (mkv (ek t) (f (j : Int))))
/-- the thing a of h, as a cell of H -/
def HC (D : va_G) (dA : Nat → ClassId) (bs sb : Nat) (h : PH) (H : Heap) (a : Int) : Prop :=
  (∃ c : Nat, c < 13 ∧ tg h a = (c : Int) ∧ t_OB (adr bs sb a) (D.1 c) (fN c) (D.2 c) H (fun k => cv bs sb (mkv (fk (100 * c + k)) (gv h a (k : Int)))) ∧ ∀ k, k < fN c → okx (nx h) (fk (100 * c + k)) (gv h a (k : Int))) ∨
  (100 ≤ tg h a ∧ tg h a < 107 ∧ 0 ≤ ln h a ∧ ln h a < 2147483648 ∧ H[adr bs sb a]? = some (arE dA bs sb (tg h a) (ln h a) (gv h a)) ∧ ∀ j, 0 ≤ j → j < ln h a → okx (nx h) (ek (tg h a)) (gv h a j))
def HR (D : va_G) (dA : Nat → ClassId) (bs sb : Nat) (scr : Cell) (h : PH) (H : Heap) : Prop :=
  2 ≤ nx h ∧ H.size = bs + (nx h - 2).toNat ∧ sb < bs ∧ (∀ a, 2 ≤ a → a < nx h → HC D dA bs sb h H a) ∧ (∀ a, a ≤ 0 ∨ nx h ≤ a → tg h a = -1) ∧
  tg h 1 = 100 ∧ 0 ≤ ln h 1 ∧ ln h 1 < 2147483648 ∧ H[sb]? = some scr ∧ scr.vm ≠ .unknown ∧ scr.slots.size = (ln h 1).toNat ∧ ∀ j, 0 ≤ j → j < ln h 1 → scr.slots[j.toNat]? = some (.int (Int32.ofInt (gv h 1 j))) ∧ i32 (gv h 1 j)
theorem adr_ne {bs sb : Nat} {a b : Int} (h : sb < bs) (ha : 1 ≤ a) (hb : 1 ≤ b) (n : a ≠ b) : adr bs sb a ≠ adr bs sb b := by
  unfold adr; split <;> split <;> omega
theorem adr_2 {bs sb : Nat} {a : Int} (ha : 2 ≤ a) : adr bs sb a = bs + (a - 2).toNat := by unfold adr; rw [if_neg (by omega)]
theorem cv_r {bs sb : Nat} {a : Int} (h : a ≠ 0) : cv bs sb (.inr (.inr a)) = .ref (adr bs sb a) := if_neg h
theorem okx_mono {n n' : Int} (h : n ≤ n') {k : Nat} {x : Int} (H : okx n k x) : okx n' k x := by
  unfold okx at *; split at H <;> first | exact H | (exact ⟨H.1, by omega⟩)
theorem okv_mono {n n' : Int} (h : n ≤ n') {v : PV} (H : okv n v) : okv n' v := by
  unfold okv at *; split at H <;> first | exact H | (exact ⟨H.1, by omega⟩)
theorem okv_mk {n : Int} {k : Nat} {x : Int} (hk : k < 6) (H : okx n k x) : okv n (mkv k x) := by
  match k, hk, H with
  | 0, _, H => exact H
  | 1, _, H => exact H
  | 2, _, H => exact H
  | 3, _, H => exact ⟨by have := H.1; omega, by have := H.2; omega⟩
  | 4, _, H => exact ⟨by have := H.1; omega, by have := H.2; omega⟩
  | 5, _, H => exact ⟨by have := H.1; omega, by have := H.2; omega⟩
theorem ek_lt (t : Int) : ek t < 6 := by unfold ek; (repeat' split) <;> decide
section REP
variable {D : va_G} {dA : Nat → ClassId} {bs sb : Nat} {scr : Cell} {h : PH} {H : Heap}
/-- what has a kind, is there -/
theorem HR.in {a t : Int} (R : HR D dA bs sb scr h H) (ht : tg h a = t) (h0 : 0 ≤ t) : 1 ≤ a ∧ a < nx h := by
  obtain ⟨_, _, _, _, hn, _⟩ := R
  rcases Int.lt_or_le a 1 with q | q
  · have := hn a (Or.inl (by omega)); omega
  · rcases Int.lt_or_le a (nx h) with q2 | q2
    · exact ⟨q, q2⟩
    · have := hn a (Or.inr q2); omega
/-- an object -/
theorem HR.obj {a : Int} {c : Nat} (R : HR D dA bs sb scr h H) (ht : tg h a = (c : Int)) (hc : c < 13) : 2 ≤ a ∧ a < nx h ∧ t_OB (adr bs sb a) (D.1 c) (fN c) (D.2 c) H (fun k => cv bs sb (mkv (fk (100 * c + k)) (gv h a (k : Int)))) ∧ ∀ k, k < fN c → okx (nx h) (fk (100 * c + k)) (gv h a (k : Int)) := by
  obtain ⟨h1, h2⟩ := R.in ht (by omega)
  obtain ⟨_, _, _, hc', _, h1t, _⟩ := R
  have ha : a ≠ 1 := fun e => by rw [e, h1t] at ht; omega
  refine ⟨by omega, h2, ?_⟩
  rcases hc' a (by omega) h2 with ⟨c', q1, q2, q3, q4⟩ | ⟨q1, _⟩
  · have e : c' = c := by omega
    subst e
    exact ⟨q3, q4⟩
  · omega
/-- an array, the script among them: its cell and what it holds -/
theorem HR.arr {s : State} {a t : Int} (R : HR D dA bs sb scr h H) (hK : va_K D vwCl (tysD dA) s) (hscr : s.isArrayOf scr .int) (ht : tg h a = t) (h0 : 100 ≤ t) :
    1 ≤ a ∧ a < nx h ∧ t < 107 ∧ 0 ≤ ln h a ∧ ln h a < 2147483648 ∧ ∃ cell : Cell, H[adr bs sb a]? = some cell ∧ s.isArrayOf cell (aty t) ∧ cell.vm ≠ .unknown ∧ cell.slots.size = (ln h a).toNat ∧
      ∀ j, 0 ≤ j → j < ln h a → cell.slots[j.toNat]? = some (cv bs sb (mkv (ek t) (gv h a j))) ∧ okx (nx h) (ek t) (gv h a j) := by
  obtain ⟨h1, h2⟩ := R.in ht (by omega)
  obtain ⟨_, _, _, hc', _, h1t, hl0, hl1, hs1, hs2, hs3, hs4⟩ := R
  by_cases ha : a = 1
  · subst ha
    rw [h1t] at ht
    subst ht
    refine ⟨h1, h2, by decide, hl0, hl1, scr, hs1, hscr, hs2, hs3, fun j q1 q2 => ?_⟩
    obtain ⟨e1, e2⟩ := hs4 j q1 q2
    exact ⟨e1, e2⟩
  · rcases hc' a (by omega) h2 with ⟨c', q1, q2, _⟩ | ⟨q1, q2, q3, q4, q5, q6⟩
    · omega
    · subst ht
      refine ⟨h1, h2, q2, q3, q4, _, q5, ?_, (fun e => by cases e), arrV_size _ _ _, fun j g1 g2 => ⟨?_, q6 j g1 g2⟩⟩
      · have hh : ∀ t : Int, 100 ≤ t → t < 107 → (tysD dA)[t.toNat - 100]? = some (dA (t.toNat - 100), aty t) := by
          intro t g1 g2
          rcases (show t = 100 ∨ t = 101 ∨ t = 102 ∨ t = 103 ∨ t = 104 ∨ t = 105 ∨ t = 106 by omega) with rfl | rfl | rfl | rfl | rfl | rfl | rfl <;> rfl
        exact (hK.2 _ _ (hh _ q1 q2)).1 _ _
      · have := arrV_read (dA ((tg h a).toNat - 100)) (fun j : Nat => cv bs sb (mkv (ek (tg h a)) (gv h a (j : Int)))) (show j.toNat < (ln h a).toNat by omega)
        rw [show ((j.toNat : Nat) : Int) = j by omega] at this
        exact this
theorem gv_sv (h : PH) (a i v b j : Int) : gv (sv h a i v) b j = if b = a ∧ j = i then v else gv h b j := rfl
theorem tg_sv (h : PH) (a i v b : Int) : tg (sv h a i v) b = tg h b := rfl
theorem ln_sv (h : PH) (a i v b : Int) : ln (sv h a i v) b = ln h b := rfl
theorem nx_sv (h : PH) (a i v : Int) : nx (sv h a i v) = nx h := rfl
theorem HC.keep {h' : PH} {H' : Heap} {b : Int} (C : HC D dA bs sb h H b) (e1 : ∀ j, gv h' b j = gv h b j) (e2 : tg h' b = tg h b) (e3 : ln h' b = ln h b) (e4 : nx h ≤ nx h') (e5 : H'[adr bs sb b]? = H[adr bs sb b]?) : HC D dA bs sb h' H' b := by
  rcases C with ⟨c, q1, q2, ⟨cell, w1, w2⟩, q4⟩ | ⟨q1, q2, q3, q4, q5, q6⟩
  · refine Or.inl ⟨c, q1, by rw [e2]; exact q2, ⟨cell, by rw [e5]; exact w1, ?_⟩, fun k hk => ?_⟩
    · simpa only [e1] using w2
    · rw [e1]; exact okx_mono e4 (q4 k hk)
  · refine Or.inr ⟨by rw [e2]; exact q1, by rw [e2]; exact q2, by rw [e3]; exact q3, by rw [e3]; exact q4, ?_, fun j g1 g2 => ?_⟩
    · rw [e5, q5, e2, e3, show gv h' b = gv h b from funext e1]
    · rw [e1, e2]; rw [e3] at g2; exact okx_mono e4 (q6 j g1 g2)
/-- a store of one value, into an array -/
theorem HR.sta {a t i x : Int} {H' : Heap} (R : HR D dA bs sb scr h H) (ht : tg h a = t) (h0 : 100 ≤ t) (ha : 2 ≤ a) (hi : 0 ≤ i) (hx : okx (nx h) (ek t) x)
    (e1 : H'[adr bs sb a]? = some ((arE dA bs sb (tg h a) (ln h a) (gv h a)).setSlot i.toNat (cv bs sb (mkv (ek t) x)))) (e2 : H'.size = H.size) (e3 : ∀ q, q ≠ adr bs sb a → H'[q]? = H[q]?) : HR D dA bs sb scr (sv h a i x) H' := by
  obtain ⟨r1, r2, r3, hc', r5, r6, r7, r8, r9, r10, r11, r12⟩ := R
  have hsb : sb ≠ adr bs sb a := by rw [adr_2 ha]; omega
  refine ⟨r1, by rw [e2]; exact r2, r3, fun b g1 g2 => ?_, r5, r6, r7, r8, by rw [e3 sb hsb]; exact r9, r10, r11, fun j g1 g2 => ?_⟩
  · by_cases hb : b = a
    · subst hb
      rcases hc' b g1 g2 with ⟨c, q1, q2, _⟩ | ⟨q1, q2, q3, q4, q5, q6⟩
      · omega
      · refine Or.inr ⟨q1, q2, q3, q4, ?_, fun j w1 w2 => ?_⟩
        · rw [e1]
          show some _ = some (arrV _ _ _)
          unfold arE
          rw [arrV_store]
          congr 2
          funext j
          unfold updV
          rw [gv_sv]
          by_cases hj : j = i.toNat
          · rw [if_pos hj, if_pos ⟨rfl, by omega⟩, tg_sv, ht]
          · rw [if_neg hj, if_neg (by omega)]; rfl
        · rw [gv_sv]
          split
          · rw [tg_sv, ht]; exact hx
          · exact q6 j w1 w2
    · exact (hc' b g1 g2).keep (fun j => by rw [gv_sv, if_neg (fun q => hb q.1)]) rfl rfl (Int.le_refl _) (e3 _ (adr_ne r3 (by omega) (by omega) hb))
  · rw [gv_sv, if_neg (by omega)]; exact r12 j g1 g2
/-- a store into a field -/
theorem HR.stf {a x : Int} {c k : Nat} {H' : Heap} (R : HR D dA bs sb scr h H) (ht : tg h a = (c : Int)) (hc : c < 13) (hx : okx (nx h) (fk (100 * c + k)) x)
    (e1 : t_OB (adr bs sb a) (D.1 c) (fN c) (D.2 c) H' (updV (fun k => cv bs sb (mkv (fk (100 * c + k)) (gv h a (k : Int)))) k (cv bs sb (mkv (fk (100 * c + k)) x)))) (e2 : H'.size = H.size) (e3 : ∀ q, q ≠ adr bs sb a → H'[q]? = H[q]?) : HR D dA bs sb scr (sv h a (k : Int) x) H' := by
  obtain ⟨ha, ha2, -, q4⟩ := R.obj ht hc
  obtain ⟨r1, r2, r3, hc', r5, r6, r7, r8, r9, r10, r11, r12⟩ := R
  have hsb : sb ≠ adr bs sb a := by rw [adr_2 ha]; omega
  refine ⟨r1, by rw [e2]; exact r2, r3, fun b g1 g2 => ?_, r5, r6, r7, r8, by rw [e3 sb hsb]; exact r9, r10, r11, fun j g1 g2 => ?_⟩
  · by_cases hb : b = a
    · subst hb
      refine Or.inl ⟨c, hc, ht, e1.to (fun j hj => ?_), fun j hj => ?_⟩
      · unfold updV
        rw [gv_sv]
        by_cases hj : j = k
        · subst hj; rw [if_pos rfl, if_pos ⟨rfl, rfl⟩]
        · rw [if_neg hj, if_neg (by omega)]
      · rw [gv_sv]
        by_cases hjk : j = k
        · subst hjk; rw [if_pos ⟨rfl, rfl⟩]; exact hx
        · rw [if_neg (by omega)]; exact q4 j hj
    · exact (hc' b g1 g2).keep (fun j => by rw [gv_sv, if_neg (fun q => hb q.1)]) rfl rfl (Int.le_refl _) (e3 _ (adr_ne r3 (by omega) (by omega) hb))
  · rw [gv_sv, if_neg (by omega)]; exact r12 j g1 g2
/-- things made at the end: from the old ones kept and the new ones there -/
theorem HR.grow {h' : PH} {H' : Heap} (R : HR D dA bs sb scr h H) (g0 : nx h ≤ nx h') (e1 : ∀ b j, b < nx h → gv h' b j = gv h b j) (e2 : ∀ b, b < nx h → tg h' b = tg h b) (e3 : ∀ b, b < nx h → ln h' b = ln h b)
    (e4 : H'.size = bs + (nx h' - 2).toNat) (e5 : ∀ q, q < H.size → H'[q]? = H[q]?) (e6 : ∀ b, nx h ≤ b → b < nx h' → HC D dA bs sb h' H' b) (e7 : ∀ b, nx h' ≤ b → tg h' b = -1) : HR D dA bs sb scr h' H' := by
  obtain ⟨r1, r2, r3, hc', r5, r6, r7, r8, r9, r10, r11, r12⟩ := R
  refine ⟨by omega, e4, r3, fun b g1 g2 => ?_, fun b q => ?_, by rw [e2 1 (by omega)]; exact r6, by rw [e3 1 (by omega)]; exact r7, by rw [e3 1 (by omega)]; exact r8, by rw [e5 sb (by omega)]; exact r9, r10, by rw [e3 1 (by omega)]; exact r11, fun j w1 w2 => ?_⟩
  · rcases Int.lt_or_le b (nx h) with q | q
    · exact (hc' b g1 q).keep (fun j => e1 b j q) (e2 b q) (e3 b q) g0 (e5 _ (by rw [adr_2 g1, r2]; omega))
    · exact e6 b q g2
  · rcases q with q | q
    · rw [e2 b (by omega)]; exact r5 b (Or.inl q)
    · exact e7 b q
  · rw [e3 1 (by omega)] at w2; rw [e1 1 j (by omega)]; exact r12 j w1 w2
end REP
