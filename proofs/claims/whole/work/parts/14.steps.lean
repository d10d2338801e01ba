/-! SOUNDNESS, 2: one instruction each, within a method -/
theorem HR.arE {D : va_G} {dA : Nat → ClassId} {bs sb : Nat} {scr : Cell} {h : PH} {H : Heap} {a t : Int} {cell : Cell} (R : HR D dA bs sb scr h H) (ha : 2 ≤ a) (ht : tg h a = t) (h0 : 100 ≤ t) (hc : H[adr bs sb a]? = some cell) : cell = arE dA bs sb (tg h a) (ln h a) (gv h a) := by
  obtain ⟨h1, h2⟩ := R.in ht (by omega)
  obtain ⟨_, _, _, hc', _⟩ := R
  rcases hc' a ha h2 with ⟨c', q1, q2, _⟩ | ⟨q1, q2, q3, q4, q5, q6⟩
  · omega
  · rw [q5] at hc; exact (Option.some.inj hc).symm
theorem nar_b {x : Int} (h : -128 ≤ x ∧ x < 128) : narrow .byte (.int (Int32.ofInt x)) = .int (Int32.ofInt x) := by
  show Value.int (Int32.ofInt x).toInt8.toInt32 = _
  rw [a_i2b ⟨by omega, by omega⟩]
  unfold w8
  rw [Int.bmod_eq_of_le (by omega) (by omega)]
theorem nar_z {x : Int} (h : 0 ≤ x ∧ x ≤ 1) : narrow .boolean (.int (Int32.ofInt x)) = .int (Int32.ofInt x) := by
  rcases (show x = 0 ∨ x = 1 by omega) with rfl | rfl <;> decide
theorem nar_c {x : Int} (h : 0 ≤ x ∧ x < 65536) : narrow .char (.int (Int32.ofInt x)) = .int (Int32.ofInt x) := by
  obtain ⟨k, rfl⟩ := Int.eq_ofNat_of_zero_le h.1
  have := (pk_charN (q := k) (by omega)).1
  have e : nI k = Int32.ofInt (k : Int) := by rw [Int32.ofInt_eq_ofNat]; rfl
  rw [← e]
  exact this
theorem i32_0 : i32 0 := ⟨by decide, by decide⟩
theorem i64_0 : i64 0 := ⟨by decide, by decide⟩
theorem i32_1 : i32 1 := ⟨by decide, by decide⟩
theorem i32_m1 : i32 (-1) := ⟨by decide, by decide⟩
section SND
variable {l : Launch} {D : va_G} {dA : Nat → ClassId} {bs sb : Nat} {scr : Cell} {p : Program} {e : Env} {R : Room} {s : State} {m : MethodId} {args : Array Value} {below : List Frame} {meth : Method} {c : Code} {mc ms d rc rs mth pc : Nat} {ls : List (Option PV)} {r : List PV} {h : PH} {q : PQ}
theorem ok_c {n : Int} {v : PV} {st : List PV} (h1 : okv n v) (h2 : ∀ w ∈ st, okv n w) : ∀ w ∈ v :: st, okv n w := List.forall_mem_cons.mpr ⟨h1, h2⟩
theorem ok_1 {n : Int} {v : PV} {st : List PV} (h : ∀ w ∈ v :: st, okv n w) : okv n v ∧ ∀ w ∈ st, okv n w := List.forall_mem_cons.mp h
theorem s_iconst (B : Bx D dA bs scr p R s m meth c mc ms d mth) {k : Int} (hk : -128 ≤ k ∧ k < 128) (hd : decode (minf mth).2.1 pc = .ok (.iconst k, 1)) (K : Wc l D dA bs sb scr p e R s m args below meth c mc ms rc rs mth (pc + 1) ls (.inl k :: r) h q) : Wc l D dA bs sb scr p e R s m args below meth c mc ms rc rs mth pc ls (r) h q := by
  intro H locs cells slots L hR hz hlo hc hs hL hst
  refine lv_iconst B.1 B.2.1 hd rfl ?_
  exact K H locs cells slots L hR hz hlo hc hs hL (ok_c ⟨by omega, by omega⟩ hst)
theorem s_bipush (B : Bx D dA bs scr p R s m meth c mc ms d mth) {k : Int} (hk : -128 ≤ k ∧ k < 128) (hd : decode (minf mth).2.1 pc = .ok (.bipush k, 2)) (K : Wc l D dA bs sb scr p e R s m args below meth c mc ms rc rs mth (pc + 2) ls (.inl k :: r) h q) : Wc l D dA bs sb scr p e R s m args below meth c mc ms rc rs mth pc ls (r) h q := by
  intro H locs cells slots L hR hz hlo hc hs hL hst
  have e8 : (Int8.ofInt k).toInt32 = Int32.ofInt k := Int32.toInt_inj.mp (by rw [Int8.toInt_toInt32, Int8.toInt_ofInt_of_le (by omega) (by omega), o32 ⟨by omega, by omega⟩])
  refine lv_bipush B.1 B.2.1 hd e8 ?_
  exact K H locs cells slots L hR hz hlo hc hs hL (ok_c ⟨by omega, by omega⟩ hst)
theorem s_sipush (B : Bx D dA bs scr p R s m meth c mc ms d mth) {k : Int} (hk : -32768 ≤ k ∧ k < 32768) (hd : decode (minf mth).2.1 pc = .ok (.sipush k, 3)) (K : Wc l D dA bs sb scr p e R s m args below meth c mc ms rc rs mth (pc + 3) ls (.inl k :: r) h q) : Wc l D dA bs sb scr p e R s m args below meth c mc ms rc rs mth pc ls (r) h q := by
  intro H locs cells slots L hR hz hlo hc hs hL hst
  have e8 : (Int16.ofInt k).toInt32 = Int32.ofInt k := Int32.toInt_inj.mp (by rw [Int16.toInt_toInt32, Int16.toInt_ofInt_of_le (by omega) (by omega), o32 ⟨by omega, by omega⟩])
  refine lv_sipush B.1 B.2.1 hd e8 ?_
  exact K H locs cells slots L hR hz hlo hc hs hL (ok_c ⟨by omega, by omega⟩ hst)
theorem s_lconst (B : Bx D dA bs scr p R s m meth c mc ms d mth) {k : Fin 2} (hd : decode (minf mth).2.1 pc = .ok (.lconst k, 1)) (K : Wc l D dA bs sb scr p e R s m args below meth c mc ms rc rs mth (pc + 1) ls (.inr (.inl ((k : Nat) : Int)) :: r) h q) : Wc l D dA bs sb scr p e R s m args below meth c mc ms rc rs mth pc ls (r) h q := by
  intro H locs cells slots L hR hz hlo hc hs hL hst
  have e8 : Int64.ofNat (k : Nat) = Int64.ofInt ((k : Nat) : Int) := by rw [Int64.ofInt_eq_ofNat]
  refine lv_lconst B.1 B.2.1 hd e8 ?_
  have := k.isLt
  exact K H locs cells slots L hR hz hlo hc hs hL (ok_c ⟨by omega, by omega⟩ hst)
theorem s_ldc (B : Bx D dA bs scr p R s m meth c mc ms d mth) {i : Nat} {k : Int} (hk : lkI3 (mC mth) i lkI = some k) (hd : decode (minf mth).2.1 pc = .ok (.ldc i, 2)) (K : Wc l D dA bs sb scr p e R s m args below meth c mc ms rc rs mth (pc + 2) ls (.inl k :: r) h q) : Wc l D dA bs sb scr p e R s m args below meth c mc ms rc rs mth pc ls (r) h q := by
  intro H locs cells slots L hR hz hlo hc hs hL hst
  refine lv_ldc B.1 B.2.1 B.2.2.2.1 (B.2.2.2.2.2.2.2.1.1 _ (wd_I hk).1 rfl args) hd ?_
  exact K H locs cells slots L hR hz hlo hc hs hL (ok_c (wd_I hk).2 hst)
theorem s_ldcw (B : Bx D dA bs scr p R s m meth c mc ms d mth) {i : Nat} {k : Int} (hk : lkI3 (mC mth) i lkI = some k) (hd : decode (minf mth).2.1 pc = .ok (.ldc_w i, 3)) (K : Wc l D dA bs sb scr p e R s m args below meth c mc ms rc rs mth (pc + 3) ls (.inl k :: r) h q) : Wc l D dA bs sb scr p e R s m args below meth c mc ms rc rs mth pc ls (r) h q := by
  intro H locs cells slots L hR hz hlo hc hs hL hst
  refine lv_ldcw B.1 B.2.1 B.2.2.2.1 (B.2.2.2.2.2.2.2.1.1 _ (wd_I hk).1 rfl args) hd ?_
  exact K H locs cells slots L hR hz hlo hc hs hL (ok_c (wd_I hk).2 hst)
theorem s_ldc2 (B : Bx D dA bs scr p R s m meth c mc ms d mth) {i : Nat} {k : Int} (hk : lkI3 (mC mth) i lkJ = some k) (hd : decode (minf mth).2.1 pc = .ok (.ldc2_w i, 3)) (K : Wc l D dA bs sb scr p e R s m args below meth c mc ms rc rs mth (pc + 3) ls (.inr (.inl k) :: r) h q) : Wc l D dA bs sb scr p e R s m args below meth c mc ms rc rs mth pc ls (r) h q := by
  intro H locs cells slots L hR hz hlo hc hs hL hst
  refine lv_ldc2 B.1 B.2.1 B.2.2.2.1 (B.2.2.2.2.2.2.2.1.1 _ (wd_J hk).1 rfl args) hd ?_
  exact K H locs cells slots L hR hz hlo hc hs hL (ok_c (wd_J hk).2 hst)
theorem s_null (B : Bx D dA bs scr p R s m meth c mc ms d mth)  (hd : decode (minf mth).2.1 pc = .ok (.aconst_null, 1)) (K : Wc l D dA bs sb scr p e R s m args below meth c mc ms rc rs mth (pc + 1) ls (.inr (.inr 0) :: r) h q) : Wc l D dA bs sb scr p e R s m args below meth c mc ms rc rs mth pc ls (r) h q := by
  intro H locs cells slots L hR hz hlo hc hs hL hst
  refine lv_null B.1 B.2.1 hd ?_
  exact K H locs cells slots L hR hz hlo hc hs hL (ok_c ⟨Int.le_refl 0, by have := hR.1; omega⟩ hst)
theorem s_iload (B : Bx D dA bs scr p R s m meth c mc ms d mth) {k : Nat} {x : Int} (hx : ls[k]? = some (some (.inl x))) (hd : decode (minf mth).2.1 pc = .ok (.iload k, 2)) (K : Wc l D dA bs sb scr p e R s m args below meth c mc ms rc rs mth (pc + 2) ls (.inl x :: r) h q) : Wc l D dA bs sb scr p e R s m args below meth c mc ms rc rs mth pc ls (r) h q := by
  intro H locs cells slots L hR hz hlo hc hs hL hst
  obtain ⟨e1, e2⟩ := hL.2.2.2 k _ hx
  refine lv_iload B.1 B.2.1 hd e1 ?_
  exact K H locs cells slots L hR hz hlo hc hs hL (ok_c e2 hst)
theorem s_iload_n (B : Bx D dA bs scr p R s m meth c mc ms d mth) {k : Fin 4} {x : Int} (hx : ls[(k : Nat)]? = some (some (.inl x))) (hd : decode (minf mth).2.1 pc = .ok (.iload_n k, 1)) (K : Wc l D dA bs sb scr p e R s m args below meth c mc ms rc rs mth (pc + 1) ls (.inl x :: r) h q) : Wc l D dA bs sb scr p e R s m args below meth c mc ms rc rs mth pc ls (r) h q := by
  intro H locs cells slots L hR hz hlo hc hs hL hst
  obtain ⟨e1, e2⟩ := hL.2.2.2 k _ hx
  refine lv_iload_n B.1 B.2.1 hd rfl e1 ?_
  exact K H locs cells slots L hR hz hlo hc hs hL (ok_c e2 hst)
theorem s_lload (B : Bx D dA bs scr p R s m meth c mc ms d mth) {k : Nat} {x : Int} (hx : ls[k]? = some (some (.inr (.inl x)))) (hd : decode (minf mth).2.1 pc = .ok (.lload k, 2)) (K : Wc l D dA bs sb scr p e R s m args below meth c mc ms rc rs mth (pc + 2) ls (.inr (.inl x) :: r) h q) : Wc l D dA bs sb scr p e R s m args below meth c mc ms rc rs mth pc ls (r) h q := by
  intro H locs cells slots L hR hz hlo hc hs hL hst
  obtain ⟨e1, e2⟩ := hL.2.2.2 k _ hx
  refine lv_lload B.1 B.2.1 hd e1 ?_
  exact K H locs cells slots L hR hz hlo hc hs hL (ok_c e2 hst)
theorem s_lload_n (B : Bx D dA bs scr p R s m meth c mc ms d mth) {k : Fin 4} {x : Int} (hx : ls[(k : Nat)]? = some (some (.inr (.inl x)))) (hd : decode (minf mth).2.1 pc = .ok (.lload_n k, 1)) (K : Wc l D dA bs sb scr p e R s m args below meth c mc ms rc rs mth (pc + 1) ls (.inr (.inl x) :: r) h q) : Wc l D dA bs sb scr p e R s m args below meth c mc ms rc rs mth pc ls (r) h q := by
  intro H locs cells slots L hR hz hlo hc hs hL hst
  obtain ⟨e1, e2⟩ := hL.2.2.2 k _ hx
  refine lv_lload_n B.1 B.2.1 hd rfl e1 ?_
  exact K H locs cells slots L hR hz hlo hc hs hL (ok_c e2 hst)
theorem s_aload (B : Bx D dA bs scr p R s m meth c mc ms d mth) {k : Nat} {x : Int} (hx : ls[k]? = some (some (.inr (.inr x)))) (hd : decode (minf mth).2.1 pc = .ok (.aload k, 2)) (K : Wc l D dA bs sb scr p e R s m args below meth c mc ms rc rs mth (pc + 2) ls (.inr (.inr x) :: r) h q) : Wc l D dA bs sb scr p e R s m args below meth c mc ms rc rs mth pc ls (r) h q := by
  intro H locs cells slots L hR hz hlo hc hs hL hst
  obtain ⟨e1, e2⟩ := hL.2.2.2 k _ hx
  by_cases hx0 : x = 0
  · subst hx0
    refine lv_aloadN B.1 B.2.1 hd e1 ?_
    exact K H locs cells slots L hR hz hlo hc hs hL (ok_c e2 hst)
  · have e3 : cv bs sb (.inr (.inr x)) = .ref (adr bs sb x) := cv_r hx0
    rw [e3] at e1
    refine lv_aload B.1 B.2.1 hd e1 ?_
    have K' := K H locs cells slots L hR hz hlo hc hs hL (ok_c e2 hst)
    rw [List.map_cons, e3] at K'
    exact K'
theorem s_aload_n (B : Bx D dA bs scr p R s m meth c mc ms d mth) {k : Fin 4} {x : Int} (hx : ls[(k : Nat)]? = some (some (.inr (.inr x)))) (hd : decode (minf mth).2.1 pc = .ok (.aload_n k, 1)) (K : Wc l D dA bs sb scr p e R s m args below meth c mc ms rc rs mth (pc + 1) ls (.inr (.inr x) :: r) h q) : Wc l D dA bs sb scr p e R s m args below meth c mc ms rc rs mth pc ls (r) h q := by
  intro H locs cells slots L hR hz hlo hc hs hL hst
  obtain ⟨e1, e2⟩ := hL.2.2.2 (k : Nat) _ hx
  by_cases hx0 : x = 0
  · subst hx0
    refine lv_aload_nN B.1 B.2.1 hd rfl e1 ?_
    exact K H locs cells slots L hR hz hlo hc hs hL (ok_c e2 hst)
  · have e3 : cv bs sb (.inr (.inr x)) = .ref (adr bs sb x) := cv_r hx0
    rw [e3] at e1
    refine lv_aload_n B.1 B.2.1 hd rfl e1 ?_
    have K' := K H locs cells slots L hR hz hlo hc hs hL (ok_c e2 hst)
    rw [List.map_cons, e3] at K'
    exact K'
theorem s_istore (B : Bx D dA bs scr p R s m meth c mc ms d mth) {k : Nat} {x : Int} (hk : k < ls.length) (hd : decode (minf mth).2.1 pc = .ok (.istore k, 2)) (K : Wc l D dA bs sb scr p e R s m args below meth c mc ms rc rs mth (pc + 2) (st1 ls k (.inl x)) (r) h q) : Wc l D dA bs sb scr p e R s m args below meth c mc ms rc rs mth pc ls (.inl x :: r) h q := by
  intro H locs cells slots L hR hz hlo hc hs hL hst
  refine lv_istore B.1 B.2.1 hd hL.has (by rw [← hL.2.2.1]; exact hk) rfl fun L' h' => ?_
  exact K H locs cells slots L' hR hz hlo hc hs (hL.sto1 (v := .inl x) (ok_1 hst).1 h') (ok_1 hst).2
theorem s_lstore (B : Bx D dA bs scr p R s m meth c mc ms d mth) {k : Nat} {x : Int} (hk : k + 1 < ls.length) (hd : decode (minf mth).2.1 pc = .ok (.lstore k, 2)) (K : Wc l D dA bs sb scr p e R s m args below meth c mc ms rc rs mth (pc + 2) (st2 ls k x) (r) h q) : Wc l D dA bs sb scr p e R s m args below meth c mc ms rc rs mth pc ls (.inr (.inl x) :: r) h q := by
  intro H locs cells slots L hR hz hlo hc hs hL hst
  refine lv_lstore B.1 B.2.1 hd hL.has (by rw [← hL.2.2.1]; exact hk) rfl fun L' h' => ?_
  exact K H locs cells slots L' hR hz hlo hc hs (hL.sto2 (ok_1 hst).1 h') (ok_1 hst).2
theorem s_astore (B : Bx D dA bs scr p R s m meth c mc ms d mth) {k : Nat} {x : Int} (hk : k < ls.length) (hd : decode (minf mth).2.1 pc = .ok (.astore k, 2)) (K : Wc l D dA bs sb scr p e R s m args below meth c mc ms rc rs mth (pc + 2) (st1 ls k (.inr (.inr x))) (r) h q) : Wc l D dA bs sb scr p e R s m args below meth c mc ms rc rs mth pc ls (.inr (.inr x) :: r) h q := by
  intro H locs cells slots L hR hz hlo hc hs hL hst
  by_cases hx0 : x = 0
  · subst hx0
    refine lv_astoreN B.1 B.2.1 hd hL.has (by rw [← hL.2.2.1]; exact hk) rfl fun L' h' => ?_
    exact K H locs cells slots L' hR hz hlo hc hs (hL.sto1 (v := .inr (.inr 0)) (ok_1 hst).1 h') (ok_1 hst).2
  · have e3 : cv bs sb (.inr (.inr x)) = .ref (adr bs sb x) := cv_r hx0
    rw [List.map_cons, e3]
    refine lv_astore B.1 B.2.1 hd hL.has (by rw [← hL.2.2.1]; exact hk) rfl fun L' h' => ?_
    exact K H locs cells slots L' hR hz hlo hc hs (hL.sto1 (v := .inr (.inr x)) (ok_1 hst).1 (by rw [e3]; exact h')) (ok_1 hst).2
theorem s_istore_n (B : Bx D dA bs scr p R s m meth c mc ms d mth) {k : Fin 4} {x : Int} (hk : (k : Nat) < ls.length) (hd : decode (minf mth).2.1 pc = .ok (.istore_n k, 1)) (K : Wc l D dA bs sb scr p e R s m args below meth c mc ms rc rs mth (pc + 1) (st1 ls (k : Nat) (.inl x)) (r) h q) : Wc l D dA bs sb scr p e R s m args below meth c mc ms rc rs mth pc ls (.inl x :: r) h q := by
  intro H locs cells slots L hR hz hlo hc hs hL hst
  refine lv_istore_n B.1 B.2.1 hd rfl hL.has (by rw [← hL.2.2.1]; exact hk) rfl fun L' h' => ?_
  exact K H locs cells slots L' hR hz hlo hc hs (hL.sto1 (v := .inl x) (ok_1 hst).1 h') (ok_1 hst).2
theorem s_lstore_n (B : Bx D dA bs scr p R s m meth c mc ms d mth) {k : Fin 4} {x : Int} (hk : (k : Nat) + 1 < ls.length) (hd : decode (minf mth).2.1 pc = .ok (.lstore_n k, 1)) (K : Wc l D dA bs sb scr p e R s m args below meth c mc ms rc rs mth (pc + 1) (st2 ls (k : Nat) x) (r) h q) : Wc l D dA bs sb scr p e R s m args below meth c mc ms rc rs mth pc ls (.inr (.inl x) :: r) h q := by
  intro H locs cells slots L hR hz hlo hc hs hL hst
  refine lv_lstore_n B.1 B.2.1 hd rfl hL.has (by rw [← hL.2.2.1]; exact hk) rfl fun L' h' => ?_
  exact K H locs cells slots L' hR hz hlo hc hs (hL.sto2 (ok_1 hst).1 h') (ok_1 hst).2
theorem s_astore_n (B : Bx D dA bs scr p R s m meth c mc ms d mth) {k : Fin 4} {x : Int} (hk : (k : Nat) < ls.length) (hd : decode (minf mth).2.1 pc = .ok (.astore_n k, 1)) (K : Wc l D dA bs sb scr p e R s m args below meth c mc ms rc rs mth (pc + 1) (st1 ls (k : Nat) (.inr (.inr x))) (r) h q) : Wc l D dA bs sb scr p e R s m args below meth c mc ms rc rs mth pc ls (.inr (.inr x) :: r) h q := by
  intro H locs cells slots L hR hz hlo hc hs hL hst
  by_cases hx0 : x = 0
  · subst hx0
    refine lv_astore_nN B.1 B.2.1 hd rfl hL.has (by rw [← hL.2.2.1]; exact hk) rfl fun L' h' => ?_
    exact K H locs cells slots L' hR hz hlo hc hs (hL.sto1 (v := .inr (.inr 0)) (ok_1 hst).1 h') (ok_1 hst).2
  · have e3 : cv bs sb (.inr (.inr x)) = .ref (adr bs sb x) := cv_r hx0
    rw [List.map_cons, e3]
    refine lv_astore_n B.1 B.2.1 hd rfl hL.has (by rw [← hL.2.2.1]; exact hk) rfl fun L' h' => ?_
    exact K H locs cells slots L' hR hz hlo hc hs (hL.sto1 (v := .inr (.inr x)) (ok_1 hst).1 (by rw [e3]; exact h')) (ok_1 hst).2
theorem s_iinc (B : Bx D dA bs scr p R s m meth c mc ms d mth) {k : Nat} {n x : Int} (hx : ls[k]? = some (some (.inl x))) (hd : decode (minf mth).2.1 pc = .ok (.iinc k n, 3)) (K : Wc l D dA bs sb scr p e R s m args below meth c mc ms rc rs mth (pc + 3) (st1 ls k (.inl (w32 (x + n)))) (r) h q) : Wc l D dA bs sb scr p e R s m args below meth c mc ms rc rs mth pc ls (r) h q := by
  intro H locs cells slots L hR hz hlo hc hs hL hst
  obtain ⟨j, hj⟩ := List.mem_iff_getElem?.mp (lvs_mem (bs := bs) (sb := sb) hx)
  refine lv_iinc B.1 B.2.1 hd hL.has hj (a_add x n) (by rw [← hL.2.2.1]; exact (List.getElem?_eq_some_iff.mp hx).1) rfl fun L' h' => ?_
  exact K H locs cells slots L' hR hz hlo hc hs (hL.sto1 (v := .inl (w32 (x + n))) (w32_in _) h') hst
theorem s_iadd (B : Bx D dA bs scr p R s m meth c mc ms d mth) {x y : Int} (hd : decode (minf mth).2.1 pc = .ok (.iadd, 1)) (K : Wc l D dA bs sb scr p e R s m args below meth c mc ms rc rs mth (pc + 1) ls (.inl (w32 (x + y)) :: r) h q) : Wc l D dA bs sb scr p e R s m args below meth c mc ms rc rs mth pc ls (.inl y :: .inl x :: r) h q := by
  intro H locs cells slots L hR hz hlo hc hs hL hst
  obtain ⟨hy, hst⟩ := ok_1 hst
  obtain ⟨hx, hst⟩ := ok_1 hst
  refine lv_iadd B.1 B.2.1 hd ?_
  rw [a_add x y]
  exact K H locs cells slots L hR hz hlo hc hs hL (ok_c (w32_in _) hst)
theorem s_ladd (B : Bx D dA bs scr p R s m meth c mc ms d mth) {x y : Int} (hd : decode (minf mth).2.1 pc = .ok (.ladd, 1)) (K : Wc l D dA bs sb scr p e R s m args below meth c mc ms rc rs mth (pc + 1) ls (.inr (.inl (w64 (x + y))) :: r) h q) : Wc l D dA bs sb scr p e R s m args below meth c mc ms rc rs mth pc ls (.inr (.inl y) :: .inr (.inl x) :: r) h q := by
  intro H locs cells slots L hR hz hlo hc hs hL hst
  obtain ⟨hy, hst⟩ := ok_1 hst
  obtain ⟨hx, hst⟩ := ok_1 hst
  refine lv_ladd B.1 B.2.1 hd ?_
  rw [a_ladd x y]
  exact K H locs cells slots L hR hz hlo hc hs hL (ok_c (w64_in _) hst)
theorem s_isub (B : Bx D dA bs scr p R s m meth c mc ms d mth) {x y : Int} (hd : decode (minf mth).2.1 pc = .ok (.isub, 1)) (K : Wc l D dA bs sb scr p e R s m args below meth c mc ms rc rs mth (pc + 1) ls (.inl (w32 (x - y)) :: r) h q) : Wc l D dA bs sb scr p e R s m args below meth c mc ms rc rs mth pc ls (.inl y :: .inl x :: r) h q := by
  intro H locs cells slots L hR hz hlo hc hs hL hst
  obtain ⟨hy, hst⟩ := ok_1 hst
  obtain ⟨hx, hst⟩ := ok_1 hst
  refine lv_isub B.1 B.2.1 hd ?_
  rw [a_sub x y]
  exact K H locs cells slots L hR hz hlo hc hs hL (ok_c (w32_in _) hst)
theorem s_lsub (B : Bx D dA bs scr p R s m meth c mc ms d mth) {x y : Int} (hd : decode (minf mth).2.1 pc = .ok (.lsub, 1)) (K : Wc l D dA bs sb scr p e R s m args below meth c mc ms rc rs mth (pc + 1) ls (.inr (.inl (w64 (x - y))) :: r) h q) : Wc l D dA bs sb scr p e R s m args below meth c mc ms rc rs mth pc ls (.inr (.inl y) :: .inr (.inl x) :: r) h q := by
  intro H locs cells slots L hR hz hlo hc hs hL hst
  obtain ⟨hy, hst⟩ := ok_1 hst
  obtain ⟨hx, hst⟩ := ok_1 hst
  refine lv_lsub B.1 B.2.1 hd ?_
  rw [a_lsub x y]
  exact K H locs cells slots L hR hz hlo hc hs hL (ok_c (w64_in _) hst)
theorem s_imul (B : Bx D dA bs scr p R s m meth c mc ms d mth) {x y : Int} (hd : decode (minf mth).2.1 pc = .ok (.imul, 1)) (K : Wc l D dA bs sb scr p e R s m args below meth c mc ms rc rs mth (pc + 1) ls (.inl (w32 (x * y)) :: r) h q) : Wc l D dA bs sb scr p e R s m args below meth c mc ms rc rs mth pc ls (.inl y :: .inl x :: r) h q := by
  intro H locs cells slots L hR hz hlo hc hs hL hst
  obtain ⟨hy, hst⟩ := ok_1 hst
  obtain ⟨hx, hst⟩ := ok_1 hst
  refine lv_imul B.1 B.2.1 hd ?_
  rw [a_mul x y]
  exact K H locs cells slots L hR hz hlo hc hs hL (ok_c (w32_in _) hst)
theorem s_lmul (B : Bx D dA bs scr p R s m meth c mc ms d mth) {x y : Int} (hd : decode (minf mth).2.1 pc = .ok (.lmul, 1)) (K : Wc l D dA bs sb scr p e R s m args below meth c mc ms rc rs mth (pc + 1) ls (.inr (.inl (w64 (x * y))) :: r) h q) : Wc l D dA bs sb scr p e R s m args below meth c mc ms rc rs mth pc ls (.inr (.inl y) :: .inr (.inl x) :: r) h q := by
  intro H locs cells slots L hR hz hlo hc hs hL hst
  obtain ⟨hy, hst⟩ := ok_1 hst
  obtain ⟨hx, hst⟩ := ok_1 hst
  refine lv_lmul B.1 B.2.1 hd ?_
  rw [a_lmul x y]
  exact K H locs cells slots L hR hz hlo hc hs hL (ok_c (w64_in _) hst)
theorem s_iand (B : Bx D dA bs scr p R s m meth c mc ms d mth) {x y : Int} (hd : decode (minf mth).2.1 pc = .ok (.iand, 1)) (K : Wc l D dA bs sb scr p e R s m args below meth c mc ms rc rs mth (pc + 1) ls (.inl (an32 x y) :: r) h q) : Wc l D dA bs sb scr p e R s m args below meth c mc ms rc rs mth pc ls (.inl y :: .inl x :: r) h q := by
  intro H locs cells slots L hR hz hlo hc hs hL hst
  obtain ⟨hy, hst⟩ := ok_1 hst
  obtain ⟨hx, hst⟩ := ok_1 hst
  refine lv_iand B.1 B.2.1 hd ?_
  rw [a_and x y]
  exact K H locs cells slots L hR hz hlo hc hs hL (ok_c (bv32_in _) hst)
theorem s_ior (B : Bx D dA bs scr p R s m meth c mc ms d mth) {x y : Int} (hd : decode (minf mth).2.1 pc = .ok (.ior, 1)) (K : Wc l D dA bs sb scr p e R s m args below meth c mc ms rc rs mth (pc + 1) ls (.inl (or32 x y) :: r) h q) : Wc l D dA bs sb scr p e R s m args below meth c mc ms rc rs mth pc ls (.inl y :: .inl x :: r) h q := by
  intro H locs cells slots L hR hz hlo hc hs hL hst
  obtain ⟨hy, hst⟩ := ok_1 hst
  obtain ⟨hx, hst⟩ := ok_1 hst
  refine lv_ior B.1 B.2.1 hd ?_
  rw [a_or x y]
  exact K H locs cells slots L hR hz hlo hc hs hL (ok_c (bv32_in _) hst)
theorem s_land (B : Bx D dA bs scr p R s m meth c mc ms d mth) {x y : Int} (hd : decode (minf mth).2.1 pc = .ok (.land, 1)) (K : Wc l D dA bs sb scr p e R s m args below meth c mc ms rc rs mth (pc + 1) ls (.inr (.inl (an64 x y)) :: r) h q) : Wc l D dA bs sb scr p e R s m args below meth c mc ms rc rs mth pc ls (.inr (.inl y) :: .inr (.inl x) :: r) h q := by
  intro H locs cells slots L hR hz hlo hc hs hL hst
  obtain ⟨hy, hst⟩ := ok_1 hst
  obtain ⟨hx, hst⟩ := ok_1 hst
  refine lv_land B.1 B.2.1 hd ?_
  rw [a_land x y]
  exact K H locs cells slots L hR hz hlo hc hs hL (ok_c (bv64_in _) hst)
theorem s_lor (B : Bx D dA bs scr p R s m meth c mc ms d mth) {x y : Int} (hd : decode (minf mth).2.1 pc = .ok (.lor, 1)) (K : Wc l D dA bs sb scr p e R s m args below meth c mc ms rc rs mth (pc + 1) ls (.inr (.inl (or64 x y)) :: r) h q) : Wc l D dA bs sb scr p e R s m args below meth c mc ms rc rs mth pc ls (.inr (.inl y) :: .inr (.inl x) :: r) h q := by
  intro H locs cells slots L hR hz hlo hc hs hL hst
  obtain ⟨hy, hst⟩ := ok_1 hst
  obtain ⟨hx, hst⟩ := ok_1 hst
  refine lv_lor B.1 B.2.1 hd ?_
  rw [a_lor x y]
  exact K H locs cells slots L hR hz hlo hc hs hL (ok_c (bv64_in _) hst)
theorem s_lxor (B : Bx D dA bs scr p R s m meth c mc ms d mth) {x y : Int} (hd : decode (minf mth).2.1 pc = .ok (.lxor, 1)) (K : Wc l D dA bs sb scr p e R s m args below meth c mc ms rc rs mth (pc + 1) ls (.inr (.inl (xo64 x y)) :: r) h q) : Wc l D dA bs sb scr p e R s m args below meth c mc ms rc rs mth pc ls (.inr (.inl y) :: .inr (.inl x) :: r) h q := by
  intro H locs cells slots L hR hz hlo hc hs hL hst
  obtain ⟨hy, hst⟩ := ok_1 hst
  obtain ⟨hx, hst⟩ := ok_1 hst
  refine lv_lxor B.1 B.2.1 hd ?_
  rw [a_lxor x y]
  exact K H locs cells slots L hR hz hlo hc hs hL (ok_c (bv64_in _) hst)
theorem s_idiv (B : Bx D dA bs scr p R s m meth c mc ms d mth) {x y : Int} (hy0 : y ≠ 0) (hd : decode (minf mth).2.1 pc = .ok (.idiv, 1)) (K : Wc l D dA bs sb scr p e R s m args below meth c mc ms rc rs mth (pc + 1) ls (.inl (w32 (Int.tdiv x y)) :: r) h q) : Wc l D dA bs sb scr p e R s m args below meth c mc ms rc rs mth pc ls (.inl y :: .inl x :: r) h q := by
  intro H locs cells slots L hR hz hlo hc hs hL hst
  obtain ⟨hy, hst⟩ := ok_1 hst
  obtain ⟨hx, hst⟩ := ok_1 hst
  have hn : ¬ Int32.ofInt y = 0 := fun z => hy0 ((eq32 hy i32_0).mp z)
  refine lv_idiv B.1 B.2.1 hd hn ?_
  rw [a_div hx hy]
  exact K H locs cells slots L hR hz hlo hc hs hL (ok_c (w32_in _) hst)
theorem s_irem (B : Bx D dA bs scr p R s m meth c mc ms d mth) {x y : Int} (hy0 : y ≠ 0) (hd : decode (minf mth).2.1 pc = .ok (.irem, 1)) (K : Wc l D dA bs sb scr p e R s m args below meth c mc ms rc rs mth (pc + 1) ls (.inl (Int.tmod x y) :: r) h q) : Wc l D dA bs sb scr p e R s m args below meth c mc ms rc rs mth pc ls (.inl y :: .inl x :: r) h q := by
  intro H locs cells slots L hR hz hlo hc hs hL hst
  obtain ⟨hy, hst⟩ := ok_1 hst
  obtain ⟨hx, hst⟩ := ok_1 hst
  have hn : ¬ Int32.ofInt y = 0 := fun z => hy0 ((eq32 hy i32_0).mp z)
  refine lv_irem B.1 B.2.1 hd hn ?_
  rw [a_rem hx hy]
  exact K H locs cells slots L hR hz hlo hc hs hL (ok_c (tmod_in hx (by decide)) hst)
theorem s_ldiv (B : Bx D dA bs scr p R s m meth c mc ms d mth) {x y : Int} (hy0 : y ≠ 0) (hd : decode (minf mth).2.1 pc = .ok (.ldiv, 1)) (K : Wc l D dA bs sb scr p e R s m args below meth c mc ms rc rs mth (pc + 1) ls (.inr (.inl (w64 (Int.tdiv x y))) :: r) h q) : Wc l D dA bs sb scr p e R s m args below meth c mc ms rc rs mth pc ls (.inr (.inl y) :: .inr (.inl x) :: r) h q := by
  intro H locs cells slots L hR hz hlo hc hs hL hst
  obtain ⟨hy, hst⟩ := ok_1 hst
  obtain ⟨hx, hst⟩ := ok_1 hst
  have hn : ¬ Int64.ofInt y = 0 := fun z => hy0 ((eq64 hy i64_0).mp z)
  refine lv_ldiv B.1 B.2.1 hd hn ?_
  rw [a_ldiv hx hy]
  exact K H locs cells slots L hR hz hlo hc hs hL (ok_c (w64_in _) hst)
theorem s_lrem (B : Bx D dA bs scr p R s m meth c mc ms d mth) {x y : Int} (hy0 : y ≠ 0) (hd : decode (minf mth).2.1 pc = .ok (.lrem, 1)) (K : Wc l D dA bs sb scr p e R s m args below meth c mc ms rc rs mth (pc + 1) ls (.inr (.inl (Int.tmod x y)) :: r) h q) : Wc l D dA bs sb scr p e R s m args below meth c mc ms rc rs mth pc ls (.inr (.inl y) :: .inr (.inl x) :: r) h q := by
  intro H locs cells slots L hR hz hlo hc hs hL hst
  obtain ⟨hy, hst⟩ := ok_1 hst
  obtain ⟨hx, hst⟩ := ok_1 hst
  have hn : ¬ Int64.ofInt y = 0 := fun z => hy0 ((eq64 hy i64_0).mp z)
  refine lv_lrem B.1 B.2.1 hd hn ?_
  rw [a_lrem hx hy]
  exact K H locs cells slots L hR hz hlo hc hs hL (ok_c (tmod_in hx (by decide)) hst)
theorem s_ishl (B : Bx D dA bs scr p R s m meth c mc ms d mth) {x y : Int} (h0 : 0 ≤ y) (h1 : y < 32) (hd : decode (minf mth).2.1 pc = .ok (.ishl, 1)) (K : Wc l D dA bs sb scr p e R s m args below meth c mc ms rc rs mth (pc + 1) ls (.inl (w32 (x * 2 ^ y.toNat)) :: r) h q) : Wc l D dA bs sb scr p e R s m args below meth c mc ms rc rs mth pc ls (.inl y :: .inl x :: r) h q := by
  intro H locs cells slots L hR hz hlo hc hs hL hst
  obtain ⟨hy, hst⟩ := ok_1 hst
  obtain ⟨hx, hst⟩ := ok_1 hst
  refine lv_ishl B.1 B.2.1 hd ?_
  rw [a_shl h0 h1]
  exact K H locs cells slots L hR hz hlo hc hs hL (ok_c (w32_in _) hst)
theorem s_ishr (B : Bx D dA bs scr p R s m meth c mc ms d mth) {x y : Int} (h0 : 0 ≤ y) (h1 : y < 32) (hd : decode (minf mth).2.1 pc = .ok (.ishr, 1)) (K : Wc l D dA bs sb scr p e R s m args below meth c mc ms rc rs mth (pc + 1) ls (.inl (x / 2 ^ y.toNat) :: r) h q) : Wc l D dA bs sb scr p e R s m args below meth c mc ms rc rs mth pc ls (.inl y :: .inl x :: r) h q := by
  intro H locs cells slots L hR hz hlo hc hs hL hst
  obtain ⟨hy, hst⟩ := ok_1 hst
  obtain ⟨hx, hst⟩ := ok_1 hst
  refine lv_ishr B.1 B.2.1 hd ?_
  rw [(a_shr hx h0 h1).1]
  exact K H locs cells slots L hR hz hlo hc hs hL (ok_c (a_shr hx h0 h1).2 hst)
theorem s_iushr (B : Bx D dA bs scr p R s m meth c mc ms d mth) {x y : Int} (h0 : 0 ≤ y) (h1 : y < 32) (hd : decode (minf mth).2.1 pc = .ok (.iushr, 1)) (K : Wc l D dA bs sb scr p e R s m args below meth c mc ms rc rs mth (pc + 1) ls (.inl (us32 x y) :: r) h q) : Wc l D dA bs sb scr p e R s m args below meth c mc ms rc rs mth pc ls (.inl y :: .inl x :: r) h q := by
  intro H locs cells slots L hR hz hlo hc hs hL hst
  obtain ⟨hy, hst⟩ := ok_1 hst
  obtain ⟨hx, hst⟩ := ok_1 hst
  refine lv_iushr B.1 B.2.1 hd (a_ushr h0 h1) ?_
  exact K H locs cells slots L hR hz hlo hc hs hL (ok_c (w32_in _) hst)
theorem s_lshl (B : Bx D dA bs scr p R s m meth c mc ms d mth) {x y : Int} (h0 : 0 ≤ y) (h1 : y < 64) (hd : decode (minf mth).2.1 pc = .ok (.lshl, 1)) (K : Wc l D dA bs sb scr p e R s m args below meth c mc ms rc rs mth (pc + 1) ls (.inr (.inl (w64 (x * 2 ^ y.toNat))) :: r) h q) : Wc l D dA bs sb scr p e R s m args below meth c mc ms rc rs mth pc ls (.inl y :: .inr (.inl x) :: r) h q := by
  intro H locs cells slots L hR hz hlo hc hs hL hst
  obtain ⟨hy, hst⟩ := ok_1 hst
  obtain ⟨hx, hst⟩ := ok_1 hst
  refine lv_lshl B.1 B.2.1 hd (a_lshl h0 h1) ?_
  exact K H locs cells slots L hR hz hlo hc hs hL (ok_c (w64_in _) hst)
theorem s_lshr (B : Bx D dA bs scr p R s m meth c mc ms d mth) {x y : Int} (h0 : 0 ≤ y) (h1 : y < 64) (hd : decode (minf mth).2.1 pc = .ok (.lshr, 1)) (K : Wc l D dA bs sb scr p e R s m args below meth c mc ms rc rs mth (pc + 1) ls (.inr (.inl (x / 2 ^ y.toNat)) :: r) h q) : Wc l D dA bs sb scr p e R s m args below meth c mc ms rc rs mth pc ls (.inl y :: .inr (.inl x) :: r) h q := by
  intro H locs cells slots L hR hz hlo hc hs hL hst
  obtain ⟨hy, hst⟩ := ok_1 hst
  obtain ⟨hx, hst⟩ := ok_1 hst
  refine lv_lshr B.1 B.2.1 hd (a_lshr hx h0 h1).1 ?_
  exact K H locs cells slots L hR hz hlo hc hs hL (ok_c (a_lshr hx h0 h1).2 hst)
theorem s_lushr (B : Bx D dA bs scr p R s m meth c mc ms d mth) {x y : Int} (h0 : 0 ≤ y) (h1 : y < 64) (hd : decode (minf mth).2.1 pc = .ok (.lushr, 1)) (K : Wc l D dA bs sb scr p e R s m args below meth c mc ms rc rs mth (pc + 1) ls (.inr (.inl (us64 x y)) :: r) h q) : Wc l D dA bs sb scr p e R s m args below meth c mc ms rc rs mth pc ls (.inl y :: .inr (.inl x) :: r) h q := by
  intro H locs cells slots L hR hz hlo hc hs hL hst
  obtain ⟨hy, hst⟩ := ok_1 hst
  obtain ⟨hx, hst⟩ := ok_1 hst
  refine lv_lushr B.1 B.2.1 hd (a_lushr h0 h1) ?_
  exact K H locs cells slots L hR hz hlo hc hs hL (ok_c (w64_in _) hst)
theorem s_i2l (B : Bx D dA bs scr p R s m meth c mc ms d mth) {x : Int} (hd : decode (minf mth).2.1 pc = .ok (.i2l, 1)) (K : Wc l D dA bs sb scr p e R s m args below meth c mc ms rc rs mth (pc + 1) ls (.inr (.inl x) :: r) h q) : Wc l D dA bs sb scr p e R s m args below meth c mc ms rc rs mth pc ls (.inl x :: r) h q := by
  intro H locs cells slots L hR hz hlo hc hs hL hst
  obtain ⟨hx, hst⟩ := ok_1 hst
  refine lv_i2l B.1 B.2.1 hd (a_i2l hx) ?_
  have hx' : i64 x := ⟨by have := hx.1; omega, by have := hx.2; omega⟩
  exact K H locs cells slots L hR hz hlo hc hs hL (ok_c hx' hst)
theorem s_l2i (B : Bx D dA bs scr p R s m meth c mc ms d mth) {x : Int} (hd : decode (minf mth).2.1 pc = .ok (.l2i, 1)) (K : Wc l D dA bs sb scr p e R s m args below meth c mc ms rc rs mth (pc + 1) ls (.inl (w32 x) :: r) h q) : Wc l D dA bs sb scr p e R s m args below meth c mc ms rc rs mth pc ls (.inr (.inl x) :: r) h q := by
  intro H locs cells slots L hR hz hlo hc hs hL hst
  obtain ⟨hx, hst⟩ := ok_1 hst
  refine lv_l2i B.1 B.2.1 hd (a_l2i hx) ?_
  exact K H locs cells slots L hR hz hlo hc hs hL (ok_c (w32_in _) hst)
theorem s_i2b (B : Bx D dA bs scr p R s m meth c mc ms d mth) {x : Int} (hd : decode (minf mth).2.1 pc = .ok (.i2b, 1)) (K : Wc l D dA bs sb scr p e R s m args below meth c mc ms rc rs mth (pc + 1) ls (.inl (w8 x) :: r) h q) : Wc l D dA bs sb scr p e R s m args below meth c mc ms rc rs mth pc ls (.inl x :: r) h q := by
  intro H locs cells slots L hR hz hlo hc hs hL hst
  obtain ⟨hx, hst⟩ := ok_1 hst
  refine lv_i2b B.1 B.2.1 hd (a_i2b hx) ?_
  have hw := w8_in x
  exact K H locs cells slots L hR hz hlo hc hs hL (ok_c ⟨by omega, by omega⟩ hst)
theorem s_lcmp (B : Bx D dA bs scr p R s m meth c mc ms d mth) {x y : Int} (hd : decode (minf mth).2.1 pc = .ok (.lcmp, 1)) (K : (x < y → Wc l D dA bs sb scr p e R s m args below meth c mc ms rc rs mth (pc + 1) ls (.inl (-1) :: r) h q) ∧ (x = y → Wc l D dA bs sb scr p e R s m args below meth c mc ms rc rs mth (pc + 1) ls (.inl 0 :: r) h q) ∧ (y < x → Wc l D dA bs sb scr p e R s m args below meth c mc ms rc rs mth (pc + 1) ls (.inl 1 :: r) h q)) : Wc l D dA bs sb scr p e R s m args below meth c mc ms rc rs mth pc ls (.inr (.inl y) :: .inr (.inl x) :: r) h q := by
  intro H locs cells slots L hR hz hlo hc hs hL hst
  obtain ⟨hy, hst⟩ := ok_1 hst
  obtain ⟨hx, hst⟩ := ok_1 hst
  refine W.lcmp B.1 B.2.1 hd ?_
  have o1 := i32_m1
  have o2 := i32_0
  have o3 := i32_1
  rcases Int.lt_trichotomy x y with z | z | z
  · have e1 : lg_cmp (Int64.ofInt x) (Int64.ofInt y) = -1 := by unfold lg_cmp; rw [if_neg (fun w => by have := (lt64 hy hx).mp w; omega), if_neg (fun w => by have := (eq64 hx hy).mp w; omega)]
    rw [e1]
    exact K.1 z H locs cells slots L hR hz hlo hc hs hL (ok_c o1 hst)
  · have e1 : lg_cmp (Int64.ofInt x) (Int64.ofInt y) = 0 := by unfold lg_cmp; rw [if_neg (fun w => by have := (lt64 hy hx).mp w; omega), if_pos (by rw [z])]
    rw [e1]
    exact K.2.1 z H locs cells slots L hR hz hlo hc hs hL (ok_c o2 hst)
  · have e1 : lg_cmp (Int64.ofInt x) (Int64.ofInt y) = 1 := by unfold lg_cmp; rw [if_pos ((lt64 hy hx).mpr z)]
    rw [e1]
    exact K.2.2 z H locs cells slots L hR hz hlo hc hs hL (ok_c o3 hst)
theorem s_icmp_eq (B : Bx D dA bs scr p R s m meth c mc ms d mth) {x y : Int} {o : Int} (ho : 0 ≤ pc + o) (hd : decode (minf mth).2.1 pc = .ok (.if_icmp .eq o, 3)) (K : (iCnd .eq x y → Wc l D dA bs sb scr p e R s m args below meth c mc ms rc rs mth (pc + o).toNat ls r h q) ∧ (¬ iCnd .eq x y → Wc l D dA bs sb scr p e R s m args below meth c mc ms rc rs mth (pc + 3) ls r h q)) : Wc l D dA bs sb scr p e R s m args below meth c mc ms rc rs mth pc ls (.inl y :: .inl x :: r) h q := by
  intro H locs cells slots L hR hz hlo hc hs hL hst
  obtain ⟨hy, hst⟩ := ok_1 hst
  obtain ⟨hx, hst⟩ := ok_1 hst
  refine lv_icmp_eq (tgt := (pc + o).toNat) B.1 B.2.1 hd (by omega) (fun z => K.1 ?_ H locs cells slots L hR hz hlo hc hs hL hst) (fun z => K.2 ?_ H locs cells slots L hR hz hlo hc hs hL hst)
  · exact (eq32 hx hy).mp z
  · exact fun w => z ((eq32 hx hy).mpr w)
theorem s_if_eq (B : Bx D dA bs scr p R s m meth c mc ms d mth) {x : Int} {o : Int} (ho : 0 ≤ pc + o) (hd : decode (minf mth).2.1 pc = .ok (.ifCond .eq o, 3)) (K : (iCnd .eq x 0 → Wc l D dA bs sb scr p e R s m args below meth c mc ms rc rs mth (pc + o).toNat ls r h q) ∧ (¬ iCnd .eq x 0 → Wc l D dA bs sb scr p e R s m args below meth c mc ms rc rs mth (pc + 3) ls r h q)) : Wc l D dA bs sb scr p e R s m args below meth c mc ms rc rs mth pc ls (.inl x :: r) h q := by
  intro H locs cells slots L hR hz hlo hc hs hL hst
  obtain ⟨hx, hst⟩ := ok_1 hst
  have hy := i32_0
  refine lv_if_eq (tgt := (pc + o).toNat) B.1 B.2.1 hd (by omega) (fun z => K.1 ?_ H locs cells slots L hR hz hlo hc hs hL hst) (fun z => K.2 ?_ H locs cells slots L hR hz hlo hc hs hL hst)
  · exact (eq32 hx hy).mp z
  · exact fun w => z ((eq32 hx hy).mpr w)
theorem s_icmp_ne (B : Bx D dA bs scr p R s m meth c mc ms d mth) {x y : Int} {o : Int} (ho : 0 ≤ pc + o) (hd : decode (minf mth).2.1 pc = .ok (.if_icmp .ne o, 3)) (K : (iCnd .ne x y → Wc l D dA bs sb scr p e R s m args below meth c mc ms rc rs mth (pc + o).toNat ls r h q) ∧ (¬ iCnd .ne x y → Wc l D dA bs sb scr p e R s m args below meth c mc ms rc rs mth (pc + 3) ls r h q)) : Wc l D dA bs sb scr p e R s m args below meth c mc ms rc rs mth pc ls (.inl y :: .inl x :: r) h q := by
  intro H locs cells slots L hR hz hlo hc hs hL hst
  obtain ⟨hy, hst⟩ := ok_1 hst
  obtain ⟨hx, hst⟩ := ok_1 hst
  refine lv_icmp_ne (tgt := (pc + o).toNat) B.1 B.2.1 hd (by omega) (fun z => K.1 ?_ H locs cells slots L hR hz hlo hc hs hL hst) (fun z => K.2 ?_ H locs cells slots L hR hz hlo hc hs hL hst)
  · exact fun w => z ((eq32 hx hy).mpr w)
  · exact fun w => w ((eq32 hx hy).mp z)
theorem s_if_ne (B : Bx D dA bs scr p R s m meth c mc ms d mth) {x : Int} {o : Int} (ho : 0 ≤ pc + o) (hd : decode (minf mth).2.1 pc = .ok (.ifCond .ne o, 3)) (K : (iCnd .ne x 0 → Wc l D dA bs sb scr p e R s m args below meth c mc ms rc rs mth (pc + o).toNat ls r h q) ∧ (¬ iCnd .ne x 0 → Wc l D dA bs sb scr p e R s m args below meth c mc ms rc rs mth (pc + 3) ls r h q)) : Wc l D dA bs sb scr p e R s m args below meth c mc ms rc rs mth pc ls (.inl x :: r) h q := by
  intro H locs cells slots L hR hz hlo hc hs hL hst
  obtain ⟨hx, hst⟩ := ok_1 hst
  have hy := i32_0
  refine lv_if_ne (tgt := (pc + o).toNat) B.1 B.2.1 hd (by omega) (fun z => K.1 ?_ H locs cells slots L hR hz hlo hc hs hL hst) (fun z => K.2 ?_ H locs cells slots L hR hz hlo hc hs hL hst)
  · exact fun w => z ((eq32 hx hy).mpr w)
  · exact fun w => w ((eq32 hx hy).mp z)
theorem s_icmp_lt (B : Bx D dA bs scr p R s m meth c mc ms d mth) {x y : Int} {o : Int} (ho : 0 ≤ pc + o) (hd : decode (minf mth).2.1 pc = .ok (.if_icmp .lt o, 3)) (K : (iCnd .lt x y → Wc l D dA bs sb scr p e R s m args below meth c mc ms rc rs mth (pc + o).toNat ls r h q) ∧ (¬ iCnd .lt x y → Wc l D dA bs sb scr p e R s m args below meth c mc ms rc rs mth (pc + 3) ls r h q)) : Wc l D dA bs sb scr p e R s m args below meth c mc ms rc rs mth pc ls (.inl y :: .inl x :: r) h q := by
  intro H locs cells slots L hR hz hlo hc hs hL hst
  obtain ⟨hy, hst⟩ := ok_1 hst
  obtain ⟨hx, hst⟩ := ok_1 hst
  refine lv_icmp_lt (tgt := (pc + o).toNat) B.1 B.2.1 hd (by omega) (fun z => K.1 ?_ H locs cells slots L hR hz hlo hc hs hL hst) (fun z => K.2 ?_ H locs cells slots L hR hz hlo hc hs hL hst)
  · exact (lt32 hx hy).mp z
  · exact fun w => z ((lt32 hx hy).mpr w)
theorem s_if_lt (B : Bx D dA bs scr p R s m meth c mc ms d mth) {x : Int} {o : Int} (ho : 0 ≤ pc + o) (hd : decode (minf mth).2.1 pc = .ok (.ifCond .lt o, 3)) (K : (iCnd .lt x 0 → Wc l D dA bs sb scr p e R s m args below meth c mc ms rc rs mth (pc + o).toNat ls r h q) ∧ (¬ iCnd .lt x 0 → Wc l D dA bs sb scr p e R s m args below meth c mc ms rc rs mth (pc + 3) ls r h q)) : Wc l D dA bs sb scr p e R s m args below meth c mc ms rc rs mth pc ls (.inl x :: r) h q := by
  intro H locs cells slots L hR hz hlo hc hs hL hst
  obtain ⟨hx, hst⟩ := ok_1 hst
  have hy := i32_0
  refine lv_if_lt (tgt := (pc + o).toNat) B.1 B.2.1 hd (by omega) (fun z => K.1 ?_ H locs cells slots L hR hz hlo hc hs hL hst) (fun z => K.2 ?_ H locs cells slots L hR hz hlo hc hs hL hst)
  · exact (lt32 hx hy).mp z
  · exact fun w => z ((lt32 hx hy).mpr w)
theorem s_icmp_ge (B : Bx D dA bs scr p R s m meth c mc ms d mth) {x y : Int} {o : Int} (ho : 0 ≤ pc + o) (hd : decode (minf mth).2.1 pc = .ok (.if_icmp .ge o, 3)) (K : (iCnd .ge x y → Wc l D dA bs sb scr p e R s m args below meth c mc ms rc rs mth (pc + o).toNat ls r h q) ∧ (¬ iCnd .ge x y → Wc l D dA bs sb scr p e R s m args below meth c mc ms rc rs mth (pc + 3) ls r h q)) : Wc l D dA bs sb scr p e R s m args below meth c mc ms rc rs mth pc ls (.inl y :: .inl x :: r) h q := by
  intro H locs cells slots L hR hz hlo hc hs hL hst
  obtain ⟨hy, hst⟩ := ok_1 hst
  obtain ⟨hx, hst⟩ := ok_1 hst
  refine lv_icmp_ge (tgt := (pc + o).toNat) B.1 B.2.1 hd (by omega) (fun z => K.1 ?_ H locs cells slots L hR hz hlo hc hs hL hst) (fun z => K.2 ?_ H locs cells slots L hR hz hlo hc hs hL hst)
  · have := (le32 hy hx).mp z; show ¬ _; omega
  · intro w; exact z ((le32 hy hx).mpr (by have w : ¬ _ := w; omega))
theorem s_if_ge (B : Bx D dA bs scr p R s m meth c mc ms d mth) {x : Int} {o : Int} (ho : 0 ≤ pc + o) (hd : decode (minf mth).2.1 pc = .ok (.ifCond .ge o, 3)) (K : (iCnd .ge x 0 → Wc l D dA bs sb scr p e R s m args below meth c mc ms rc rs mth (pc + o).toNat ls r h q) ∧ (¬ iCnd .ge x 0 → Wc l D dA bs sb scr p e R s m args below meth c mc ms rc rs mth (pc + 3) ls r h q)) : Wc l D dA bs sb scr p e R s m args below meth c mc ms rc rs mth pc ls (.inl x :: r) h q := by
  intro H locs cells slots L hR hz hlo hc hs hL hst
  obtain ⟨hx, hst⟩ := ok_1 hst
  have hy := i32_0
  refine lv_if_ge (tgt := (pc + o).toNat) B.1 B.2.1 hd (by omega) (fun z => K.1 ?_ H locs cells slots L hR hz hlo hc hs hL hst) (fun z => K.2 ?_ H locs cells slots L hR hz hlo hc hs hL hst)
  · have := (le32 hy hx).mp z; show ¬ _; omega
  · intro w; exact z ((le32 hy hx).mpr (by have w : ¬ _ := w; omega))
theorem s_icmp_gt (B : Bx D dA bs scr p R s m meth c mc ms d mth) {x y : Int} {o : Int} (ho : 0 ≤ pc + o) (hd : decode (minf mth).2.1 pc = .ok (.if_icmp .gt o, 3)) (K : (iCnd .gt x y → Wc l D dA bs sb scr p e R s m args below meth c mc ms rc rs mth (pc + o).toNat ls r h q) ∧ (¬ iCnd .gt x y → Wc l D dA bs sb scr p e R s m args below meth c mc ms rc rs mth (pc + 3) ls r h q)) : Wc l D dA bs sb scr p e R s m args below meth c mc ms rc rs mth pc ls (.inl y :: .inl x :: r) h q := by
  intro H locs cells slots L hR hz hlo hc hs hL hst
  obtain ⟨hy, hst⟩ := ok_1 hst
  obtain ⟨hx, hst⟩ := ok_1 hst
  refine lv_icmp_gt (tgt := (pc + o).toNat) B.1 B.2.1 hd (by omega) (fun z => K.1 ?_ H locs cells slots L hR hz hlo hc hs hL hst) (fun z => K.2 ?_ H locs cells slots L hR hz hlo hc hs hL hst)
  · exact (lt32 hy hx).mp z
  · exact fun w => z ((lt32 hy hx).mpr w)
theorem s_if_gt (B : Bx D dA bs scr p R s m meth c mc ms d mth) {x : Int} {o : Int} (ho : 0 ≤ pc + o) (hd : decode (minf mth).2.1 pc = .ok (.ifCond .gt o, 3)) (K : (iCnd .gt x 0 → Wc l D dA bs sb scr p e R s m args below meth c mc ms rc rs mth (pc + o).toNat ls r h q) ∧ (¬ iCnd .gt x 0 → Wc l D dA bs sb scr p e R s m args below meth c mc ms rc rs mth (pc + 3) ls r h q)) : Wc l D dA bs sb scr p e R s m args below meth c mc ms rc rs mth pc ls (.inl x :: r) h q := by
  intro H locs cells slots L hR hz hlo hc hs hL hst
  obtain ⟨hx, hst⟩ := ok_1 hst
  have hy := i32_0
  refine lv_if_gt (tgt := (pc + o).toNat) B.1 B.2.1 hd (by omega) (fun z => K.1 ?_ H locs cells slots L hR hz hlo hc hs hL hst) (fun z => K.2 ?_ H locs cells slots L hR hz hlo hc hs hL hst)
  · exact (lt32 hy hx).mp z
  · exact fun w => z ((lt32 hy hx).mpr w)
theorem s_icmp_le (B : Bx D dA bs scr p R s m meth c mc ms d mth) {x y : Int} {o : Int} (ho : 0 ≤ pc + o) (hd : decode (minf mth).2.1 pc = .ok (.if_icmp .le o, 3)) (K : (iCnd .le x y → Wc l D dA bs sb scr p e R s m args below meth c mc ms rc rs mth (pc + o).toNat ls r h q) ∧ (¬ iCnd .le x y → Wc l D dA bs sb scr p e R s m args below meth c mc ms rc rs mth (pc + 3) ls r h q)) : Wc l D dA bs sb scr p e R s m args below meth c mc ms rc rs mth pc ls (.inl y :: .inl x :: r) h q := by
  intro H locs cells slots L hR hz hlo hc hs hL hst
  obtain ⟨hy, hst⟩ := ok_1 hst
  obtain ⟨hx, hst⟩ := ok_1 hst
  refine lv_icmp_le (tgt := (pc + o).toNat) B.1 B.2.1 hd (by omega) (fun z => K.1 ?_ H locs cells slots L hR hz hlo hc hs hL hst) (fun z => K.2 ?_ H locs cells slots L hR hz hlo hc hs hL hst)
  · have := (le32 hx hy).mp z; show ¬ _; omega
  · intro w; exact z ((le32 hx hy).mpr (by have w : ¬ _ := w; omega))
theorem s_if_le (B : Bx D dA bs scr p R s m meth c mc ms d mth) {x : Int} {o : Int} (ho : 0 ≤ pc + o) (hd : decode (minf mth).2.1 pc = .ok (.ifCond .le o, 3)) (K : (iCnd .le x 0 → Wc l D dA bs sb scr p e R s m args below meth c mc ms rc rs mth (pc + o).toNat ls r h q) ∧ (¬ iCnd .le x 0 → Wc l D dA bs sb scr p e R s m args below meth c mc ms rc rs mth (pc + 3) ls r h q)) : Wc l D dA bs sb scr p e R s m args below meth c mc ms rc rs mth pc ls (.inl x :: r) h q := by
  intro H locs cells slots L hR hz hlo hc hs hL hst
  obtain ⟨hx, hst⟩ := ok_1 hst
  have hy := i32_0
  refine lv_if_le (tgt := (pc + o).toNat) B.1 B.2.1 hd (by omega) (fun z => K.1 ?_ H locs cells slots L hR hz hlo hc hs hL hst) (fun z => K.2 ?_ H locs cells slots L hR hz hlo hc hs hL hst)
  · have := (le32 hx hy).mp z; show ¬ _; omega
  · intro w; exact z ((le32 hx hy).mpr (by have w : ¬ _ := w; omega))
theorem s_goto (B : Bx D dA bs scr p R s m meth c mc ms d mth) {o : Int} (ho : 0 ≤ pc + o) (hd : decode (minf mth).2.1 pc = .ok (.goto o, 3)) (K : Wc l D dA bs sb scr p e R s m args below meth c mc ms rc rs mth ((pc + o).toNat) ls (r) h q) : Wc l D dA bs sb scr p e R s m args below meth c mc ms rc rs mth pc ls (r) h q := by
  intro H locs cells slots L hR hz hlo hc hs hL hst
  refine lv_goto (tgt := (pc + o).toNat) B.1 B.2.1 hd (by omega) ?_
  exact K H locs cells slots L hR hz hlo hc hs hL hst
theorem s_ifnull (B : Bx D dA bs scr p R s m meth c mc ms d mth) {x : Int} {o : Int} (ho : 0 ≤ pc + o) (hd : decode (minf mth).2.1 pc = .ok (.ifnull o, 3)) (K : (x = 0 → Wc l D dA bs sb scr p e R s m args below meth c mc ms rc rs mth (pc + o).toNat ls r h q) ∧ (¬ x = 0 → Wc l D dA bs sb scr p e R s m args below meth c mc ms rc rs mth (pc + 3) ls r h q)) : Wc l D dA bs sb scr p e R s m args below meth c mc ms rc rs mth pc ls (.inr (.inr x) :: r) h q := by
  intro H locs cells slots L hR hz hlo hc hs hL hst
  obtain ⟨hx, hst2⟩ := ok_1 hst
  by_cases hx0 : x = 0
  · subst hx0
    exact lv_ifnullN (tgt := (pc + o).toNat) B.1 B.2.1 hd (by omega) (K.1 rfl H locs cells slots L hR hz hlo hc hs hL hst2)
  · rw [List.map_cons, cv_r hx0]
    exact lv_ifnull B.1 B.2.1 hd (K.2 hx0 H locs cells slots L hR hz hlo hc hs hL hst2)
theorem s_ifnonnull (B : Bx D dA bs scr p R s m meth c mc ms d mth) {x : Int} {o : Int} (ho : 0 ≤ pc + o) (hd : decode (minf mth).2.1 pc = .ok (.ifnonnull o, 3)) (K : (x = 0 → Wc l D dA bs sb scr p e R s m args below meth c mc ms rc rs mth (pc + 3) ls r h q) ∧ (¬ x = 0 → Wc l D dA bs sb scr p e R s m args below meth c mc ms rc rs mth (pc + o).toNat ls r h q)) : Wc l D dA bs sb scr p e R s m args below meth c mc ms rc rs mth pc ls (.inr (.inr x) :: r) h q := by
  intro H locs cells slots L hR hz hlo hc hs hL hst
  obtain ⟨hx, hst2⟩ := ok_1 hst
  by_cases hx0 : x = 0
  · subst hx0
    exact lv_ifnonnullN B.1 B.2.1 hd (K.1 rfl H locs cells slots L hR hz hlo hc hs hL hst2)
  · rw [List.map_cons, cv_r hx0]
    exact lv_ifnonnull (tgt := (pc + o).toNat) B.1 B.2.1 hd (by omega) (K.2 hx0 H locs cells slots L hR hz hlo hc hs hL hst2)
theorem s_dup (B : Bx D dA bs scr p R s m meth c mc ms d mth) {v : PV} (hv : ∀ x, v ≠ .inr (.inl x)) (hd : decode (minf mth).2.1 pc = .ok (.dup, 1)) (K : Wc l D dA bs sb scr p e R s m args below meth c mc ms rc rs mth (pc + 1) ls (v :: v :: r) h q) : Wc l D dA bs sb scr p e R s m args below meth c mc ms rc rs mth pc ls (v :: r) h q := by
  intro H locs cells slots L hR hz hlo hc hs hL hst
  refine lv_dup B.1 B.2.1 hd (cat_1 hv) ?_
  exact K H locs cells slots L hR hz hlo hc hs hL (ok_c (ok_1 hst).1 hst)
theorem s_pop (B : Bx D dA bs scr p R s m meth c mc ms d mth) {v : PV} (hv : ∀ x, v ≠ .inr (.inl x)) (hd : decode (minf mth).2.1 pc = .ok (.pop, 1)) (K : Wc l D dA bs sb scr p e R s m args below meth c mc ms rc rs mth (pc + 1) ls (r) h q) : Wc l D dA bs sb scr p e R s m args below meth c mc ms rc rs mth pc ls (v :: r) h q := by
  intro H locs cells slots L hR hz hlo hc hs hL hst
  refine lv_pop B.1 B.2.1 hd (cat_1 hv) ?_
  exact K H locs cells slots L hR hz hlo hc hs hL (ok_1 hst).2
theorem s_dup2 (B : Bx D dA bs scr p R s m meth c mc ms d mth) {v w : PV} (hv : ∀ x, v ≠ .inr (.inl x)) (hw : ∀ x, w ≠ .inr (.inl x)) (hd : decode (minf mth).2.1 pc = .ok (.dup2, 1)) (K : Wc l D dA bs sb scr p e R s m args below meth c mc ms rc rs mth (pc + 1) ls (v :: w :: v :: w :: r) h q) : Wc l D dA bs sb scr p e R s m args below meth c mc ms rc rs mth pc ls (v :: w :: r) h q := by
  intro H locs cells slots L hR hz hlo hc hs hL hst
  refine lv_dup2_11 B.1 B.2.1 hd (cat_1 hv) (cat_1 hw) ?_
  exact K H locs cells slots L hR hz hlo hc hs hL (ok_c (ok_1 hst).1 (ok_c (ok_1 (ok_1 hst).2).1 hst))
theorem s_iaload (B : Bx D dA bs scr p R s m meth c mc ms d mth) {a i : Int} (ht : tg h a = 100) (h0 : 0 ≤ i) (h1 : i < ln h a) (hd : decode (minf mth).2.1 pc = .ok (.iaload, 1)) (K : Wc l D dA bs sb scr p e R s m args below meth c mc ms rc rs mth (pc + 1) ls (mkv 0 (gv h a i) :: r) h q) : Wc l D dA bs sb scr p e R s m args below meth c mc ms rc rs mth pc ls (.inl i :: .inr (.inr a) :: r) h q := by
  intro H locs cells slots L hR hz hlo hc hs hL hst
  obtain ⟨hi, hst⟩ := ok_1 hst
  obtain ⟨ha, hst⟩ := ok_1 hst
  obtain ⟨a1, a2, a3, a4, a5, cell, q2, q3, q4, q5, q6⟩ := hR.arr B.2.2.2.2.2.2.2.1.2.2.1 B.2.2.2.2.2.2.2.1.2.2.2 ht (by decide)
  obtain ⟨g1, g2⟩ := q6 i h0 h1
  have hin : ¬ (Int32.ofInt i < 0 ∨ cell.slots.size ≤ (Int32.ofInt i).toNatClampNeg) := by
    rw [cl32 hi, q5]
    rintro (z | z)
    · have := (lt32 hi i32_0).mp z; omega
    · omega
  have g3 : cell.slots[(Int32.ofInt i).toNatClampNeg]? = some (cv bs sb (mkv 0 (gv h a i))) := by rw [cl32 hi]; exact g1
  rw [List.map_cons, List.map_cons, cv_r (show a ≠ 0 by omega)]
  exact W.iald B.1 B.2.1 q2 q3 q4 hin g3 rfl rfl hd (K H locs cells slots L hR hz hlo hc hs hL (ok_c (okv_mk (by decide) g2) hst))
theorem s_laload (B : Bx D dA bs scr p R s m meth c mc ms d mth) {a i : Int} (ht : tg h a = 101) (h0 : 0 ≤ i) (h1 : i < ln h a) (hd : decode (minf mth).2.1 pc = .ok (.laload, 1)) (K : Wc l D dA bs sb scr p e R s m args below meth c mc ms rc rs mth (pc + 1) ls (mkv 1 (gv h a i) :: r) h q) : Wc l D dA bs sb scr p e R s m args below meth c mc ms rc rs mth pc ls (.inl i :: .inr (.inr a) :: r) h q := by
  intro H locs cells slots L hR hz hlo hc hs hL hst
  obtain ⟨hi, hst⟩ := ok_1 hst
  obtain ⟨ha, hst⟩ := ok_1 hst
  obtain ⟨a1, a2, a3, a4, a5, cell, q2, q3, q4, q5, q6⟩ := hR.arr B.2.2.2.2.2.2.2.1.2.2.1 B.2.2.2.2.2.2.2.1.2.2.2 ht (by decide)
  obtain ⟨g1, g2⟩ := q6 i h0 h1
  have hin : ¬ (Int32.ofInt i < 0 ∨ cell.slots.size ≤ (Int32.ofInt i).toNatClampNeg) := by
    rw [cl32 hi, q5]
    rintro (z | z)
    · have := (lt32 hi i32_0).mp z; omega
    · omega
  have g3 : cell.slots[(Int32.ofInt i).toNatClampNeg]? = some (cv bs sb (mkv 1 (gv h a i))) := by rw [cl32 hi]; exact g1
  rw [List.map_cons, List.map_cons, cv_r (show a ≠ 0 by omega)]
  exact W.lald B.1 B.2.1 q2 q3 q4 hin g3 rfl rfl hd (K H locs cells slots L hR hz hlo hc hs hL (ok_c (okv_mk (by decide) g2) hst))
theorem s_baload (B : Bx D dA bs scr p R s m meth c mc ms d mth) {a i : Int} (ht : tg h a = 102) (h0 : 0 ≤ i) (h1 : i < ln h a) (hd : decode (minf mth).2.1 pc = .ok (.baload, 1)) (K : Wc l D dA bs sb scr p e R s m args below meth c mc ms rc rs mth (pc + 1) ls (mkv 4 (gv h a i) :: r) h q) : Wc l D dA bs sb scr p e R s m args below meth c mc ms rc rs mth pc ls (.inl i :: .inr (.inr a) :: r) h q := by
  intro H locs cells slots L hR hz hlo hc hs hL hst
  obtain ⟨hi, hst⟩ := ok_1 hst
  obtain ⟨ha, hst⟩ := ok_1 hst
  obtain ⟨a1, a2, a3, a4, a5, cell, q2, q3, q4, q5, q6⟩ := hR.arr B.2.2.2.2.2.2.2.1.2.2.1 B.2.2.2.2.2.2.2.1.2.2.2 ht (by decide)
  obtain ⟨g1, g2⟩ := q6 i h0 h1
  have hin : ¬ (Int32.ofInt i < 0 ∨ cell.slots.size ≤ (Int32.ofInt i).toNatClampNeg) := by
    rw [cl32 hi, q5]
    rintro (z | z)
    · have := (lt32 hi i32_0).mp z; omega
    · omega
  have g3 : cell.slots[(Int32.ofInt i).toNatClampNeg]? = some (cv bs sb (mkv 4 (gv h a i))) := by rw [cl32 hi]; exact g1
  rw [List.map_cons, List.map_cons, cv_r (show a ≠ 0 by omega)]
  exact W.bald B.1 B.2.1 q2 q3 q4 hin g3 rfl rfl hd (K H locs cells slots L hR hz hlo hc hs hL (ok_c (okv_mk (by decide) g2) hst))
theorem s_zaload (B : Bx D dA bs scr p R s m meth c mc ms d mth) {a i : Int} (ht : tg h a = 103) (h0 : 0 ≤ i) (h1 : i < ln h a) (hd : decode (minf mth).2.1 pc = .ok (.baload, 1)) (K : Wc l D dA bs sb scr p e R s m args below meth c mc ms rc rs mth (pc + 1) ls (mkv 3 (gv h a i) :: r) h q) : Wc l D dA bs sb scr p e R s m args below meth c mc ms rc rs mth pc ls (.inl i :: .inr (.inr a) :: r) h q := by
  intro H locs cells slots L hR hz hlo hc hs hL hst
  obtain ⟨hi, hst⟩ := ok_1 hst
  obtain ⟨ha, hst⟩ := ok_1 hst
  obtain ⟨a1, a2, a3, a4, a5, cell, q2, q3, q4, q5, q6⟩ := hR.arr B.2.2.2.2.2.2.2.1.2.2.1 B.2.2.2.2.2.2.2.1.2.2.2 ht (by decide)
  obtain ⟨g1, g2⟩ := q6 i h0 h1
  have hin : ¬ (Int32.ofInt i < 0 ∨ cell.slots.size ≤ (Int32.ofInt i).toNatClampNeg) := by
    rw [cl32 hi, q5]
    rintro (z | z)
    · have := (lt32 hi i32_0).mp z; omega
    · omega
  have g3 : cell.slots[(Int32.ofInt i).toNatClampNeg]? = some (cv bs sb (mkv 3 (gv h a i))) := by rw [cl32 hi]; exact g1
  rw [List.map_cons, List.map_cons, cv_r (show a ≠ 0 by omega)]
  exact W.zald B.1 B.2.1 q2 q3 q4 hin g3 rfl rfl hd (K H locs cells slots L hR hz hlo hc hs hL (ok_c (okv_mk (by decide) g2) hst))
theorem s_caload (B : Bx D dA bs scr p R s m meth c mc ms d mth) {a i : Int} (ht : tg h a = 104) (h0 : 0 ≤ i) (h1 : i < ln h a) (hd : decode (minf mth).2.1 pc = .ok (.caload, 1)) (K : Wc l D dA bs sb scr p e R s m args below meth c mc ms rc rs mth (pc + 1) ls (mkv 5 (gv h a i) :: r) h q) : Wc l D dA bs sb scr p e R s m args below meth c mc ms rc rs mth pc ls (.inl i :: .inr (.inr a) :: r) h q := by
  intro H locs cells slots L hR hz hlo hc hs hL hst
  obtain ⟨hi, hst⟩ := ok_1 hst
  obtain ⟨ha, hst⟩ := ok_1 hst
  obtain ⟨a1, a2, a3, a4, a5, cell, q2, q3, q4, q5, q6⟩ := hR.arr B.2.2.2.2.2.2.2.1.2.2.1 B.2.2.2.2.2.2.2.1.2.2.2 ht (by decide)
  obtain ⟨g1, g2⟩ := q6 i h0 h1
  have hin : ¬ (Int32.ofInt i < 0 ∨ cell.slots.size ≤ (Int32.ofInt i).toNatClampNeg) := by
    rw [cl32 hi, q5]
    rintro (z | z)
    · have := (lt32 hi i32_0).mp z; omega
    · omega
  have g3 : cell.slots[(Int32.ofInt i).toNatClampNeg]? = some (cv bs sb (mkv 5 (gv h a i))) := by rw [cl32 hi]; exact g1
  rw [List.map_cons, List.map_cons, cv_r (show a ≠ 0 by omega)]
  exact W.cald B.1 B.2.1 q2 q3 q4 hin g3 rfl rfl hd (K H locs cells slots L hR hz hlo hc hs hL (ok_c (okv_mk (by decide) g2) hst))
theorem s_aaload (B : Bx D dA bs scr p R s m meth c mc ms d mth) {a i : Int} (ht : tg h a = 105) (h0 : 0 ≤ i) (h1 : i < ln h a) (hd : decode (minf mth).2.1 pc = .ok (.aaload, 1)) (K : Wc l D dA bs sb scr p e R s m args below meth c mc ms rc rs mth (pc + 1) ls (mkv 2 (gv h a i) :: r) h q) : Wc l D dA bs sb scr p e R s m args below meth c mc ms rc rs mth pc ls (.inl i :: .inr (.inr a) :: r) h q := by
  intro H locs cells slots L hR hz hlo hc hs hL hst
  obtain ⟨hi, hst⟩ := ok_1 hst
  obtain ⟨ha, hst⟩ := ok_1 hst
  obtain ⟨a1, a2, a3, a4, a5, cell, q2, q3, q4, q5, q6⟩ := hR.arr B.2.2.2.2.2.2.2.1.2.2.1 B.2.2.2.2.2.2.2.1.2.2.2 ht (by decide)
  obtain ⟨g1, g2⟩ := q6 i h0 h1
  have hin : ¬ (Int32.ofInt i < 0 ∨ cell.slots.size ≤ (Int32.ofInt i).toNatClampNeg) := by
    rw [cl32 hi, q5]
    rintro (z | z)
    · have := (lt32 hi i32_0).mp z; omega
    · omega
  have g3 : cell.slots[(Int32.ofInt i).toNatClampNeg]? = some (cv bs sb (mkv 2 (gv h a i))) := by rw [cl32 hi]; exact g1
  rw [List.map_cons, List.map_cons, cv_r (show a ≠ 0 by omega)]
  exact W.aald B.1 B.2.1 q2 q3 rfl q4 hin g3 rfl rfl hd (K H locs cells slots L hR hz hlo hc hs hL (ok_c (okv_mk (by decide) g2) hst))
theorem s_aaload2 (B : Bx D dA bs scr p R s m meth c mc ms d mth) {a i : Int} (ht : tg h a = 106) (h0 : 0 ≤ i) (h1 : i < ln h a) (hd : decode (minf mth).2.1 pc = .ok (.aaload, 1)) (K : Wc l D dA bs sb scr p e R s m args below meth c mc ms rc rs mth (pc + 1) ls (mkv 2 (gv h a i) :: r) h q) : Wc l D dA bs sb scr p e R s m args below meth c mc ms rc rs mth pc ls (.inl i :: .inr (.inr a) :: r) h q := by
  intro H locs cells slots L hR hz hlo hc hs hL hst
  obtain ⟨hi, hst⟩ := ok_1 hst
  obtain ⟨ha, hst⟩ := ok_1 hst
  obtain ⟨a1, a2, a3, a4, a5, cell, q2, q3, q4, q5, q6⟩ := hR.arr B.2.2.2.2.2.2.2.1.2.2.1 B.2.2.2.2.2.2.2.1.2.2.2 ht (by decide)
  obtain ⟨g1, g2⟩ := q6 i h0 h1
  have hin : ¬ (Int32.ofInt i < 0 ∨ cell.slots.size ≤ (Int32.ofInt i).toNatClampNeg) := by
    rw [cl32 hi, q5]
    rintro (z | z)
    · have := (lt32 hi i32_0).mp z; omega
    · omega
  have g3 : cell.slots[(Int32.ofInt i).toNatClampNeg]? = some (cv bs sb (mkv 2 (gv h a i))) := by rw [cl32 hi]; exact g1
  rw [List.map_cons, List.map_cons, cv_r (show a ≠ 0 by omega)]
  exact W.aald B.1 B.2.1 q2 q3 rfl q4 hin g3 rfl rfl hd (K H locs cells slots L hR hz hlo hc hs hL (ok_c (okv_mk (by decide) g2) hst))
theorem s_alen (B : Bx D dA bs scr p R s m meth c mc ms d mth) {a : Int} (ht : 100 ≤ tg h a) (hd : decode (minf mth).2.1 pc = .ok (.arraylength, 1)) (K : Wc l D dA bs sb scr p e R s m args below meth c mc ms rc rs mth (pc + 1) ls (.inl (ln h a) :: r) h q) : Wc l D dA bs sb scr p e R s m args below meth c mc ms rc rs mth pc ls (.inr (.inr a) :: r) h q := by
  intro H locs cells slots L hR hz hlo hc hs hL hst
  obtain ⟨ha, hst⟩ := ok_1 hst
  obtain ⟨a1, a2, a3, a4, a5, cell, q2, q3, q4, q5, q6⟩ := hR.arr B.2.2.2.2.2.2.2.1.2.2.1 B.2.2.2.2.2.2.2.1.2.2.2 rfl ht
  rw [List.map_cons, cv_r (show a ≠ 0 by omega)]
  have hn : cell.slots.size.toInt32 = Int32.ofInt (ln h a) := by
    rw [q5]
    show Int32.ofNat _ = _
    rw [← Int32.ofInt_eq_ofNat]
    congr 1
    omega
  exact W.alen B.1 B.2.1 q2 q3 hn rfl rfl hd (K H locs cells slots L hR hz hlo hc hs hL (ok_c ⟨by omega, by omega⟩ hst))
theorem s_iastore (B : Bx D dA bs scr p R s m meth c mc ms d mth) {a i x : Int} (ha2 : 2 ≤ a) (ht : tg h a = 100) (h0 : 0 ≤ i) (h1 : i < ln h a) (hd : decode (minf mth).2.1 pc = .ok (.iastore, 1)) (K : Wc l D dA bs sb scr p e R s m args below meth c mc ms rc rs mth (pc + 1) ls r (sv h a i x) q) : Wc l D dA bs sb scr p e R s m args below meth c mc ms rc rs mth pc ls (.inl x :: .inl i :: .inr (.inr a) :: r) h q := by
  intro H locs cells slots L hR hz hlo hc hs hL hst
  obtain ⟨hx, hst⟩ := ok_1 hst
  obtain ⟨hi, hst⟩ := ok_1 hst
  obtain ⟨ha, hst⟩ := ok_1 hst
  obtain ⟨a1, a2, a3, a4, a5, cell, q2, q3, q4, q5, q6⟩ := hR.arr B.2.2.2.2.2.2.2.1.2.2.1 B.2.2.2.2.2.2.2.1.2.2.2 ht (by decide)
  have hin : ¬ (Int32.ofInt i < 0 ∨ cell.slots.size ≤ (Int32.ofInt i).toNatClampNeg) := by
    rw [cl32 hi, q5]
    rintro (z | z)
    · have := (lt32 hi i32_0).mp z; omega
    · omega
  have ec : cell = arE dA bs sb (tg h a) (ln h a) (gv h a) := hR.arE ha2 ht (by decide) q2
  rw [List.map_cons, List.map_cons, List.map_cons, cv_r (show a ≠ 0 by omega)]
  refine W.iast B.1 B.2.1 q2 q3 q4 hin rfl rfl hd fun H' e1 e2 e3 => ?_
  rw [cl32 hi, ec] at e1
  exact K H' _ cells slots L (hR.sta ht (by decide) ha2 h0 hx e1 e2 e3) (by rw [e2]; exact hz) (fun y hy => by
    rcases List.mem_append.mp hy with z | z
    · exact hlo y z
    · rw [List.mem_singleton.mp z, adr_2 ha2]; exact Nat.le_add_right _ _) hc hs hL hst
theorem s_lastore (B : Bx D dA bs scr p R s m meth c mc ms d mth) {a i x : Int} (ha2 : 2 ≤ a) (ht : tg h a = 101) (h0 : 0 ≤ i) (h1 : i < ln h a) (hd : decode (minf mth).2.1 pc = .ok (.lastore, 1)) (K : Wc l D dA bs sb scr p e R s m args below meth c mc ms rc rs mth (pc + 1) ls r (sv h a i x) q) : Wc l D dA bs sb scr p e R s m args below meth c mc ms rc rs mth pc ls (.inr (.inl x) :: .inl i :: .inr (.inr a) :: r) h q := by
  intro H locs cells slots L hR hz hlo hc hs hL hst
  obtain ⟨hx, hst⟩ := ok_1 hst
  obtain ⟨hi, hst⟩ := ok_1 hst
  obtain ⟨ha, hst⟩ := ok_1 hst
  obtain ⟨a1, a2, a3, a4, a5, cell, q2, q3, q4, q5, q6⟩ := hR.arr B.2.2.2.2.2.2.2.1.2.2.1 B.2.2.2.2.2.2.2.1.2.2.2 ht (by decide)
  have hin : ¬ (Int32.ofInt i < 0 ∨ cell.slots.size ≤ (Int32.ofInt i).toNatClampNeg) := by
    rw [cl32 hi, q5]
    rintro (z | z)
    · have := (lt32 hi i32_0).mp z; omega
    · omega
  have ec : cell = arE dA bs sb (tg h a) (ln h a) (gv h a) := hR.arE ha2 ht (by decide) q2
  rw [List.map_cons, List.map_cons, List.map_cons, cv_r (show a ≠ 0 by omega)]
  refine W.last B.1 B.2.1 q2 q3 q4 hin rfl rfl hd fun H' e1 e2 e3 => ?_
  rw [cl32 hi, ec] at e1
  exact K H' _ cells slots L (hR.sta ht (by decide) ha2 h0 hx e1 e2 e3) (by rw [e2]; exact hz) (fun y hy => by
    rcases List.mem_append.mp hy with z | z
    · exact hlo y z
    · rw [List.mem_singleton.mp z, adr_2 ha2]; exact Nat.le_add_right _ _) hc hs hL hst
theorem s_bastore (B : Bx D dA bs scr p R s m meth c mc ms d mth) {a i x : Int} (ha2 : 2 ≤ a) (ht : tg h a = 102) (hb : -128 ≤ x ∧ x < 128) (h0 : 0 ≤ i) (h1 : i < ln h a) (hd : decode (minf mth).2.1 pc = .ok (.bastore, 1)) (K : Wc l D dA bs sb scr p e R s m args below meth c mc ms rc rs mth (pc + 1) ls r (sv h a i x) q) : Wc l D dA bs sb scr p e R s m args below meth c mc ms rc rs mth pc ls (.inl x :: .inl i :: .inr (.inr a) :: r) h q := by
  intro H locs cells slots L hR hz hlo hc hs hL hst
  obtain ⟨hx, hst⟩ := ok_1 hst
  obtain ⟨hi, hst⟩ := ok_1 hst
  obtain ⟨ha, hst⟩ := ok_1 hst
  obtain ⟨a1, a2, a3, a4, a5, cell, q2, q3, q4, q5, q6⟩ := hR.arr B.2.2.2.2.2.2.2.1.2.2.1 B.2.2.2.2.2.2.2.1.2.2.2 ht (by decide)
  have hin : ¬ (Int32.ofInt i < 0 ∨ cell.slots.size ≤ (Int32.ofInt i).toNatClampNeg) := by
    rw [cl32 hi, q5]
    rintro (z | z)
    · have := (lt32 hi i32_0).mp z; omega
    · omega
  have ec : cell = arE dA bs sb (tg h a) (ln h a) (gv h a) := hR.arE ha2 ht (by decide) q2
  rw [List.map_cons, List.map_cons, List.map_cons, cv_r (show a ≠ 0 by omega)]
  refine W.bast B.1 B.2.1 q2 q3 q4 hin rfl rfl hd fun H' e1 e2 e3 => ?_
  rw [cl32 hi, ec] at e1
  rw [show narrow .byte (.int (Int32.ofInt x)) = cv bs sb (mkv (ek 102) x) from nar_b hb] at e1
  exact K H' _ cells slots L (hR.sta ht (by decide) ha2 h0 hb e1 e2 e3) (by rw [e2]; exact hz) (fun y hy => by
    rcases List.mem_append.mp hy with z | z
    · exact hlo y z
    · rw [List.mem_singleton.mp z, adr_2 ha2]; exact Nat.le_add_right _ _) hc hs hL hst
theorem s_zastore (B : Bx D dA bs scr p R s m meth c mc ms d mth) {a i x : Int} (ha2 : 2 ≤ a) (ht : tg h a = 103) (hb : 0 ≤ x ∧ x ≤ 1) (h0 : 0 ≤ i) (h1 : i < ln h a) (hd : decode (minf mth).2.1 pc = .ok (.bastore, 1)) (K : Wc l D dA bs sb scr p e R s m args below meth c mc ms rc rs mth (pc + 1) ls r (sv h a i x) q) : Wc l D dA bs sb scr p e R s m args below meth c mc ms rc rs mth pc ls (.inl x :: .inl i :: .inr (.inr a) :: r) h q := by
  intro H locs cells slots L hR hz hlo hc hs hL hst
  obtain ⟨hx, hst⟩ := ok_1 hst
  obtain ⟨hi, hst⟩ := ok_1 hst
  obtain ⟨ha, hst⟩ := ok_1 hst
  obtain ⟨a1, a2, a3, a4, a5, cell, q2, q3, q4, q5, q6⟩ := hR.arr B.2.2.2.2.2.2.2.1.2.2.1 B.2.2.2.2.2.2.2.1.2.2.2 ht (by decide)
  have hin : ¬ (Int32.ofInt i < 0 ∨ cell.slots.size ≤ (Int32.ofInt i).toNatClampNeg) := by
    rw [cl32 hi, q5]
    rintro (z | z)
    · have := (lt32 hi i32_0).mp z; omega
    · omega
  have ec : cell = arE dA bs sb (tg h a) (ln h a) (gv h a) := hR.arE ha2 ht (by decide) q2
  rw [List.map_cons, List.map_cons, List.map_cons, cv_r (show a ≠ 0 by omega)]
  refine W.zast B.1 B.2.1 q2 q3 q4 hin rfl rfl hd fun H' e1 e2 e3 => ?_
  rw [cl32 hi, ec] at e1
  rw [show narrow .boolean (.int (Int32.ofInt x)) = cv bs sb (mkv (ek 103) x) from nar_z hb] at e1
  exact K H' _ cells slots L (hR.sta ht (by decide) ha2 h0 hb e1 e2 e3) (by rw [e2]; exact hz) (fun y hy => by
    rcases List.mem_append.mp hy with z | z
    · exact hlo y z
    · rw [List.mem_singleton.mp z, adr_2 ha2]; exact Nat.le_add_right _ _) hc hs hL hst
theorem s_castore (B : Bx D dA bs scr p R s m meth c mc ms d mth) {a i x : Int} (ha2 : 2 ≤ a) (ht : tg h a = 104) (hb : 0 ≤ x ∧ x < 65536) (h0 : 0 ≤ i) (h1 : i < ln h a) (hd : decode (minf mth).2.1 pc = .ok (.castore, 1)) (K : Wc l D dA bs sb scr p e R s m args below meth c mc ms rc rs mth (pc + 1) ls r (sv h a i x) q) : Wc l D dA bs sb scr p e R s m args below meth c mc ms rc rs mth pc ls (.inl x :: .inl i :: .inr (.inr a) :: r) h q := by
  intro H locs cells slots L hR hz hlo hc hs hL hst
  obtain ⟨hx, hst⟩ := ok_1 hst
  obtain ⟨hi, hst⟩ := ok_1 hst
  obtain ⟨ha, hst⟩ := ok_1 hst
  obtain ⟨a1, a2, a3, a4, a5, cell, q2, q3, q4, q5, q6⟩ := hR.arr B.2.2.2.2.2.2.2.1.2.2.1 B.2.2.2.2.2.2.2.1.2.2.2 ht (by decide)
  have hin : ¬ (Int32.ofInt i < 0 ∨ cell.slots.size ≤ (Int32.ofInt i).toNatClampNeg) := by
    rw [cl32 hi, q5]
    rintro (z | z)
    · have := (lt32 hi i32_0).mp z; omega
    · omega
  have ec : cell = arE dA bs sb (tg h a) (ln h a) (gv h a) := hR.arE ha2 ht (by decide) q2
  rw [List.map_cons, List.map_cons, List.map_cons, cv_r (show a ≠ 0 by omega)]
  refine W.cast B.1 B.2.1 q2 q3 q4 hin rfl rfl hd fun H' e1 e2 e3 => ?_
  rw [cl32 hi, ec] at e1
  rw [show narrow .char (.int (Int32.ofInt x)) = cv bs sb (mkv (ek 104) x) from nar_c hb] at e1
  exact K H' _ cells slots L (hR.sta ht (by decide) ha2 h0 hb e1 e2 e3) (by rw [e2]; exact hz) (fun y hy => by
    rcases List.mem_append.mp hy with z | z
    · exact hlo y z
    · rw [List.mem_singleton.mp z, adr_2 ha2]; exact Nat.le_add_right _ _) hc hs hL hst
end SND
