/-! SOUNDNESS, 4: rows of references, the library's own, answers -/
section SND
variable {l : Launch} {D : va_G} {dA : Nat → ClassId} {bs sb : Nat} {scr : Cell} {p : Program} {e : Env} {R : Room} {s : State} {m : MethodId} {args : Array Value} {below : List Frame} {meth : Method} {c : Code} {mc ms d rc rs mth pc : Nat} {ls : List (Option PV)} {r : List PV} {h : PH} {q : PQ}
theorem s_anewarray (B : Bx D dA bs scr p R s m meth c mc ms d mth) {k : Int} {i : Nat} (hi : lkC3 (mC mth) i lkC = some 1) (hk : 0 ≤ k) (h1 : 1 ≤ rc) (h2 : k.toNat ≤ rs) (hd : decode (minf mth).2.1 pc = .ok (.anewarray i, 3))
    (K : Wc l D dA bs sb scr p e R s m args below meth c mc ms (rc - 1) (rs - k.toNat) mth (pc + 3) ls (.inr (.inr (nx h)) :: r) (al h 105 k) q) : Wc l D dA bs sb scr p e R s m args below meth c mc ms rc rs mth pc ls (.inl k :: r) h q := by
  intro H locs cells slots L hR hz hlo hc hs hL hst
  obtain ⟨hx, hst⟩ := ok_1 hst
  have g := B.2.2.2.2.2.2.2.2
  have hnx := hR.1
  have hA := B.2.2.2.2.2.2.2.1.2.2.1.2 5 _ rfl
  have hcl : (Int32.ofInt k).toNatClampNeg = k.toNat := cl32 hx
  refine W.anew (C := "SquadronFlags$Book") B.1 B.2.1 B.2.2.2.1 (B.2.2.2.2.2.2.2.1.1 _ (wd_C hi).1 rfl args) (B.2.2.2.2.2.2.2.1.2.1 _ t_over rfl) rfl hd rfl (fun z => ?_) (by rw [hcl]; omega) (by omega) (by rw [hcl]; omega) fun cA kA comp f1 f2 f3 f4 => ?_
  · have := (lt32 hx i32_0).mp z; omega
  · obtain ⟨kA', comp', k1, k2, k3, k4⟩ := hA.2
    have ecA : cA = dA 5 := Option.some.inj (f1.symm.trans k4)
    subst ecA
    rw [hcl]
    generalize hH1 : H.push { cls := dA 5, slots := Array.replicate k.toNat .null, vm := .none } = H1
    have z1 : H1.size = H.size + 1 := by rw [← hH1, Array.size_push]
    have e1 : H1[H.size]? = some (arrV (dA 5) k.toNat (fun _ => .null)) := by rw [← hH1, Array.getElem?_push_size, arrV_new]
    have o1 : ∀ q : Nat, q < H.size → H1[q]? = H[q]? := fun q hq => by rw [← hH1, Array.getElem?_push, if_neg (Nat.ne_of_lt hq)]
    have K' := K H1 locs (cells + 1) (slots + k.toNat) L (hR.alo z1 o1 (Or.inr ⟨by rw [tg_al, if_pos rfl]; decide, by rw [tg_al, if_pos rfl]; decide, by rw [ln_al, if_pos rfl]; exact hk, by rw [ln_al, if_pos rfl]; exact hx.2, ?_, fun j g1 g2 => ?_⟩)) (by omega) hlo (by omega) (by omega) (hL.mono (by rw [nx_al]; omega)) (ok_c ⟨by omega, by rw [nx_al]; omega⟩ (fun v hv => okv_mono (by rw [nx_al]; omega) (hst v hv)))
    · rw [List.map_cons, cv_r (show nx h ≠ 0 by omega), adr_nx hR] at K'
      exact K'
    · rw [adr_nx hR, tg_al, if_pos rfl, ln_al, if_pos rfl, e1]
      unfold arE
      congr 2
      funext j
      rw [gv_al, if_pos rfl]
      rfl
    · rw [gv_al, if_pos rfl]
      exact okx_0 (by rw [nx_al]; omega)
theorem gv_al2 (h : PH) (n k b j : Int) : gv (al2 h n k) b j = if b = nx h then (if j < n then nx h + 1 + j else 0) else if nx h < b ∧ b ≤ nx h + n then 0 else gv h b j := rfl
theorem tg_al2 (h : PH) (n k b : Int) : tg (al2 h n k) b = if b = nx h then 106 else if nx h < b ∧ b ≤ nx h + n then 100 else tg h b := rfl
theorem ln_al2 (h : PH) (n k b : Int) : ln (al2 h n k) b = if b = nx h then n else if nx h < b ∧ b ≤ nx h + n then k else ln h b := rfl
theorem nx_al2 (h : PH) (n k : Int) : nx (al2 h n k) = nx h + 1 + n := rfl
theorem out_eq (cA : ClassId) (N h0 : Nat) : ∀ i : Nat, Jvm.Free.Multi.outerC cA N h0 i = arrV cA N (fun j => if j < i then .ref (h0 + 1 + j) else .null)
  | 0 => by
    show ({ cls := cA, slots := Array.replicate N .null, vm := .none } : Cell) = _
    rw [arrV_new]
    exact congrArg (arrV cA N) (funext fun j => by rw [if_neg (Nat.not_lt_zero j)])
  | i + 1 => by
    show (Jvm.Free.Multi.outerC cA N h0 i).setSlot i (.ref (h0 + 1 + i)) = _
    rw [out_eq cA N h0 i, arrV_store]
    refine congrArg (arrV cA N) (funext fun j => ?_)
    show (if j = i then Value.ref (h0 + 1 + i) else if j < i then Value.ref (h0 + 1 + j) else Value.null) = if j < i + 1 then Value.ref (h0 + 1 + j) else Value.null
    by_cases e : j = i
    · subst e; rw [if_pos rfl, if_pos (Nat.lt_succ_self j)]
    · rw [if_neg e]
      by_cases h : j < i
      · rw [if_pos h, if_pos (by omega)]
      · rw [if_neg h, if_neg (by omega)]
theorem s_multi (B : Bx D dA bs scr p R s m meth c mc ms d mth) {n k : Int} {i : Nat} (hi : lkO3 (mC mth) i lkW = true) (hn : 0 ≤ n) (hk : 0 ≤ k) (hk6 : k ≤ 65536) (h1 : 1 + n.toNat ≤ rc) (h2 : n.toNat + n.toNat * k.toNat ≤ rs) (hd : decode (minf mth).2.1 pc = .ok (.multianewarray i 2, 4))
    (K : Wc l D dA bs sb scr p e R s m args below meth c mc ms (rc - (1 + n.toNat)) (rs - (n.toNat + n.toNat * k.toNat)) mth (pc + 4) ls (.inr (.inr (nx h)) :: r) (al2 h n k) q) : Wc l D dA bs sb scr p e R s m args below meth c mc ms rc rs mth pc ls (.inl k :: .inl n :: r) h q := by
  intro H locs cells slots L hR hz hlo hc hs hL hst
  obtain ⟨hx, hst⟩ := ok_1 hst
  obtain ⟨hy, hst⟩ := ok_1 hst
  have g := B.2.2.2.2.2.2.2.2
  have hnx := hR.1
  have hsz := hR.2.1
  have h5 := hR.2.2.2.2.1
  have hA6 := B.2.2.2.2.2.2.2.1.2.2.1.2 6 _ rfl
  have hA0 := B.2.2.2.2.2.2.2.1.2.2.1.2 0 _ rfl
  have ecn : (Int32.ofInt n).toNatClampNeg = n.toNat := cl32 hy
  have eck : (Int32.ofInt k).toNatClampNeg = k.toNat := cl32 hx
  intro T hT X
  have hbig : k.toNat * 8 ≤ 536870912 := by omega
  · obtain ⟨vm₁, cA, comp, -, fA, fC, hO, -, X', step⟩ := X.multianewarray2F (ty := .int) B.1 B.2.2.2.1 (B.2.2.2.2.2.2.2.1.1 _ (wd_W hi) rfl args) (B.2.2.2.2.2.2.2.1.2.1 _ t_over2 rfl) (B.2.2.2.2.2.2.2.1.1 _ t_a_int rfl args)
      (g := F0 m pc L ((.inl k :: .inl n :: r).map (cv bs sb))) rfl (by rw [B.2.1]; exact hd) rfl (n := Int32.ofInt n) (k := Int32.ofInt k) (fun z => by have := (lt32 hy i32_0).mp z; omega) (fun z => by have := (lt32 hx i32_0).mp z; omega)
      (by rw [ecn]; omega) (by rw [eck]; show k.toNat * 4 ≤ _; omega) (by rw [eck]; omega) rfl rfl (by rw [ecn]; omega) (by rw [ecn, eck]; omega)
    rw [ecn, eck] at X' step
    have ec0 : comp = dA 0 := Option.some.inj (fC.symm.trans hA0.2)
    have ec6 : cA = dA 6 := Option.some.inj (fA.symm.trans hA6.2)
    subst ec0
    subst ec6
    generalize hF : Jvm.Free.Multi.fill (T.setVm vm₁) (dA 6) (dA 0) n.toNat k.toNat (defaultValue .int) n.toNat = F at X' step
    have hTh : (T.setVm vm₁).heap = H := hT
    obtain ⟨f1, f2, -, -⟩ := Jvm.Free.Multi.fill_facts (T.setVm vm₁) (dA 6) (dA 0) n.toNat k.toNat (defaultValue .int) n.toNat
    rw [hF, hTh] at f1 f2
    have hold : ∀ x : Nat, x < H.size → F.heap[x]? = H[x]? := fun x hx => by
      have := Jvm.Free.Multi.fill_old (T.setVm vm₁) (dA 6) (dA 0) n.toNat k.toNat (defaultValue .int) (a := x) (by rw [hTh]; exact hx) n.toNat
      rw [hF, hTh] at this
      exact this
    have hrow : ∀ j : Nat, j < n.toNat → F.heap[H.size + 1 + j]? = some (arrV (dA 0) k.toNat (fun _ => .int 0)) := fun j hj => by
      have := Jvm.Free.Multi.fill_inner (T.setVm vm₁) (dA 6) (dA 0) n.toNat k.toNat (defaultValue .int) n.toNat j hj
      rw [hF, hTh] at this
      rw [this]
      show some ({ cls := dA 0, slots := Array.replicate k.toNat (.int 0), vm := .none } : Cell) = _
      rw [arrV_new]
    rw [out_eq] at f2
    have hR' : HR D dA bs sb scr (al2 h n k) F.heap := by
      refine hR.grow (by rw [nx_al2]; omega) (fun b j hb => by rw [gv_al2, if_neg (by omega), if_neg (by omega)]) (fun b hb => by rw [tg_al2, if_neg (by omega), if_neg (by omega)]) (fun b hb => by rw [ln_al2, if_neg (by omega), if_neg (by omega)]) (by rw [nx_al2]; omega) hold (fun b g1 g2 => ?_) (fun b g1 => ?_)
      · rw [nx_al2] at g2
        by_cases hb : b = nx h
        · subst hb
          refine Or.inr ⟨by rw [tg_al2, if_pos rfl]; decide, by rw [tg_al2, if_pos rfl]; decide, by rw [ln_al2, if_pos rfl]; exact hn, by rw [ln_al2, if_pos rfl]; exact hy.2, ?_, fun j w1 w2 => ?_⟩
          · rw [adr_nx hR, f2, tg_al2, if_pos rfl, ln_al2, if_pos rfl]
            unfold arE
            congr 2
            funext j
            rw [gv_al2, if_pos rfl]
            by_cases hj : j < n.toNat
            · rw [if_pos hj, if_pos (by omega)]
              show _ = cv bs sb (.inr (.inr (nx h + 1 + (j : Int))))
              have e7 : H.size + 1 + j = adr bs sb (nx h + 1 + (j : Int)) := by rw [adr_2 (by omega)]; omega
              rw [cv_r (by omega), ← e7]
            · rw [if_neg hj, if_neg (by omega)]
              rfl
          · rw [ln_al2, if_pos rfl] at w2
            rw [gv_al2, if_pos rfl, if_pos w2, tg_al2, if_pos rfl]
            exact ⟨by omega, by rw [nx_al2]; omega⟩
        · have hb2 : nx h < b ∧ b ≤ nx h + n := by omega
          refine Or.inr ⟨by rw [tg_al2, if_neg hb, if_pos hb2]; decide, by rw [tg_al2, if_neg hb, if_pos hb2]; decide, by rw [ln_al2, if_neg hb, if_pos hb2]; exact hk, by rw [ln_al2, if_neg hb, if_pos hb2]; exact hx.2, ?_, fun j w1 w2 => ?_⟩
          · have e9 : adr bs sb b = H.size + 1 + (b - nx h - 1).toNat := by rw [adr_2 (by omega)]; omega
            rw [e9, hrow _ (by omega), tg_al2, if_neg hb, if_pos hb2, ln_al2, if_neg hb, if_pos hb2]
            unfold arE
            congr 2
            funext j
            rw [gv_al2, if_neg hb, if_pos hb2]
            rfl
          · rw [gv_al2, if_neg hb, if_pos hb2]
            exact okx_0 (by rw [nx_al2]; omega)
      · rw [nx_al2] at g1
        rw [tg_al2, if_neg (by omega), if_neg (by omega)]
        exact h5 b (Or.inr (by omega))
    have K' := K F.heap locs (cells + 1 + n.toNat) (slots + n.toNat + n.toNat * k.toNat) L hR' (by rw [f1]; omega) hlo (by omega) (by omega) (hL.mono (by rw [nx_al2]; omega)) (ok_c ⟨by omega, by rw [nx_al2]; omega⟩ (fun v hv => okv_mono (by rw [nx_al2]; omega) (hst v hv)))
    rw [List.map_cons, cv_r (show nx h ≠ 0 by omega), adr_nx hR] at K'
    obtain ⟨t, a1, b1⟩ := K' F rfl X'
    refine ⟨t, step t ?_, b1⟩
    have e0 : T.heap.size = H.size := by rw [hT]
    rw [e0]
    exact a1
theorem s_checkcast (B : Bx D dA bs scr p R s m meth c mc ms d mth) {a : Int} {i : Nat} (hi : lkO3 (mC mth) i lkV = true) (ha2 : 2 ≤ a) (ht : tg h a = 100) (hd : decode (minf mth).2.1 pc = .ok (.checkcast i, 3))
    (K : Wc l D dA bs sb scr p e R s m args below meth c mc ms rc rs mth (pc + 3) ls (.inr (.inr a) :: r) h q) : Wc l D dA bs sb scr p e R s m args below meth c mc ms rc rs mth pc ls (.inr (.inr a) :: r) h q := by
  intro H locs cells slots L hR hz hlo hc hs hL hst
  have hA0 := B.2.2.2.2.2.2.2.1.2.2.1.2 0 _ rfl
  obtain ⟨a1, a2, a3, a4, a5, cell, q2, q3, q4, q5, q6⟩ := hR.arr B.2.2.2.2.2.2.2.1.2.2.1 B.2.2.2.2.2.2.2.1.2.2.2 ht (by decide)
  have ec := hR.arE ha2 ht (by decide) q2
  have K' := K H locs cells slots L hR hz hlo hc hs hL hst
  rw [List.map_cons, cv_r (show a ≠ 0 by omega)] at K' ⊢
  rw [ec, ht] at q2
  have hP : va_P D vwCl [(adr bs sb a, .inl (dA 0, (ln h a).toNat, .inl (fun j => Int32.ofInt (gv h a (j : Int)))))] H := fun k9 x hx => by
    have h0 : k9 < 1 := (List.getElem?_eq_some_iff.mp hx).1
    rw [show k9 = 0 by omega] at hx
    cases hx
    exact q2
  exact va_castA B.1 B.2.1 B.2.2.2.1 (B.2.2.2.2.2.2.2.1.1 _ (wd_V hi) rfl args) hP 0 rfl hA0.2 hd K'
theorem s_clone (B : Bx D dA bs scr p R s m meth c mc ms d mth) {a : Int} {i : Nat} (hi : lkO3 (mC mth) i lkN = true) (ha2 : 2 ≤ a) (ht : tg h a = 100) (hd0 : 0 < d) (hcat : catS r ≤ 8) (h1 : 1 ≤ rc) (h2 : (ln h a).toNat ≤ rs) (hd : decode (minf mth).2.1 pc = .ok (.invokevirtual i, 3))
    (K : Wc l D dA bs sb scr p e R s m args below meth c mc ms (rc - 1) (rs - (ln h a).toNat) mth (pc + 3) ls (.inr (.inr (nx h)) :: r) (alc h a) q) : Wc l D dA bs sb scr p e R s m args below meth c mc ms rc rs mth pc ls (.inr (.inr a) :: r) h q := by
  intro H locs cells slots L hR hz hlo hc hs hL hst
  obtain ⟨hx, hst⟩ := ok_1 hst
  have g := B.2.2.2.2.2.2.2.2
  have hnx := hR.1
  have h5 := hR.2.2.2.2.1
  have hsz := hR.2.1
  have hA0 := B.2.2.2.2.2.2.2.1.2.2.1.2 0 _ rfl
  obtain ⟨a1, a2, a3, a4, a5, cell, q2, q3, q4, q5, q6⟩ := hR.arr B.2.2.2.2.2.2.2.1.2.2.1 B.2.2.2.2.2.2.2.1.2.2.2 ht (by decide)
  have ec := hR.arE ha2 ht (by decide) q2
  rw [ht] at ec
  have ec : cell = arrV (dA 0) (ln h a).toNat (fun j => .int (Int32.ofInt (gv h a (j : Int)))) := ec
  have hcl : va_Nw (.castable "[I" "java/lang/Cloneable") s := B.2.2.2.2.2.2.2.1.2.1 _ t_cast rfl
  obtain ⟨c0, t0', f1, f2, f3⟩ := Cond.castable_spec (va_Nw.use (A := args) rfl hcl)
  have hfc : s.vm.findClass "[I" = some (dA 0) := hA0.2
  cases hfc.symm.trans f1
  rw [List.map_cons, cv_r (show a ≠ 0 by omega)]
  intro T hT X
  obtain ⟨-, kA, hkA, comp, hkind⟩ := State.isArrayOf_alike X.warmed.alike (hA0.1 0 (fun _ => .null))
  obtain ⟨-, kS, hkS, compS, hkindS⟩ := hA0.1 0 (fun _ => .null)
  have hcs := cat_S (bs := bs) (sb := sb) r
  obtain ⟨vm', X', st⟩ := X.cloneArray B.1 B.2.2.2.1 (B.2.2.2.2.2.2.2.1.1 _ (wd_N hi) rfl args) (B.2.2.2.2.2.2.2.1.1 _ t_same rfl args) (B.2.2.2.2.2.2.2.1.1 _ t_nclone rfl args) (B.2.2.2.2.2.2.2.1.1 _ t_iclone rfl args) (B.2.2.2.2.2.2.2.1.1 _ t_sel rfl args)
    (a := adr bs sb a) (cell := cell) (by rw [hT]; exact q2) (fun k h => by rw [ec] at h; cases h) q4 (by rw [ec]; exact hfc) f2 (by rw [ec]; exact f3)
    (fun i v hv => by
      rw [ec] at hv ⊢
      have hk' : T.vm.classes[dA 0]? = some kA := hkA
      have hi : i < (ln h a).toNat := by
        have := (Array.getElem?_eq_some_iff.mp hv).1
        rwa [arrV_size] at this
      rw [arrV_read _ _ hi] at hv
      cases hv
      show T.fitsSlot (dA 0) .none i _ = true
      simp [State.fitsSlot, State.slotType?, hk', hkind, fits])
    (g := F0 m pc L (.ref (adr bs sb a) :: r.map (cv bs sb))) rfl (by show L.size = _; rw [hL.1, B.2.2.1]) rfl (by rw [B.2.1]; exact hd) (by omega) (by show 2 * 0 + _ + 14 ≤ _; omega) (by omega) (by rw [q5]; omega) (hloader := by rw [ec]; exact Vm.clonesLoader_of_array hkS hkindS)
  have hcellE : ({ cls := cell.cls, slots := cell.slots } : Cell) = cell := by rw [ec]; rfl
  rw [hcellE] at X' st
  have hsize : cell.slots.size = (ln h a).toNat := q5
  generalize hH1 : H.push cell = H1
  have z1 : H1.size = H.size + 1 := by rw [← hH1, Array.size_push]
  have e1 : H1[H.size]? = some cell := by rw [← hH1, Array.getElem?_push_size]
  have o1 : ∀ q : Nat, q < H.size → H1[q]? = H[q]? := fun q hq => by rw [← hH1, Array.getElem?_push, if_neg (Nat.ne_of_lt hq)]
  have gA : ∀ b j, gv (alc h a) b j = if b = nx h then gv h a j else gv h b j := fun _ _ => rfl
  have tA : ∀ b, tg (alc h a) b = if b = nx h then 100 else tg h b := fun _ => rfl
  have lA : ∀ b, ln (alc h a) b = if b = nx h then ln h a else ln h b := fun _ => rfl
  have nA : nx (alc h a) = nx h + 1 := rfl
  have hR' : HR D dA bs sb scr (alc h a) H1 := by
    refine hR.grow (by rw [nA]; omega) (fun b j hb => by rw [gA, if_neg (by omega)]) (fun b hb => by rw [tA, if_neg (by omega)]) (fun b hb => by rw [lA, if_neg (by omega)]) (by rw [nA]; omega) o1 (fun b g1 g2 => ?_) (fun b g1 => ?_)
    · rw [nA] at g2
      have hb : b = nx h := by omega
      subst hb
      refine Or.inr ⟨by rw [tA, if_pos rfl]; decide, by rw [tA, if_pos rfl]; decide, by rw [lA, if_pos rfl]; exact a4, by rw [lA, if_pos rfl]; exact a5, ?_, fun j w1 w2 => ?_⟩
      · rw [adr_nx hR, e1, tA, if_pos rfl, lA, if_pos rfl, ec]
        unfold arE
        congr 2
        funext j
        rw [gA, if_pos rfl]
        rfl
      · rw [lA, if_pos rfl] at w2
        rw [gA, if_pos rfl, tA, if_pos rfl]
        exact (q6 j w1 w2).2
    · rw [nA] at g1
      rw [tA, if_neg (by omega)]
      exact h5 b (Or.inr (by omega))
  have K' := K H1 locs (cells + 1) (slots + (ln h a).toNat) L hR' (by omega) hlo (by omega) (by omega) (hL.mono (by rw [nA]; omega)) (ok_c ⟨by omega, by rw [nA]; omega⟩ (fun v hv => okv_mono (by rw [nA]; omega) (hst v hv)))
  rw [List.map_cons, cv_r (show nx h ≠ 0 by omega), adr_nx hR] at K'
  rw [hsize] at X'
  have hTP : ((T.setVm vm').pushCell cell).heap = H1 := by rw [← hH1, ← hT]; rfl
  obtain ⟨t, b1, b2⟩ := K' _ hTP X'
  refine ⟨t, st t ?_, b2⟩
  rw [show T.heap.size = H.size by rw [hT]]
  exact b1
theorem s_copy (B : Bx D dA bs scr p R s m meth c mc ms d mth) {a b sp dp n : Int} {i : Nat} (hi : lkO3 (mC mth) i lkA = true) (ha2 : 2 ≤ a) (hb2 : 2 ≤ b) (ht : tg h a = 100) (ht' : tg h b = 100) (w1 : 0 ≤ sp) (w2 : 0 ≤ dp) (w3 : 0 ≤ n) (w4 : sp + n ≤ ln h a) (w5 : dp + n ≤ ln h b) (hd0 : 0 < d) (hcat : catS r ≤ 8) (hd : decode (minf mth).2.1 pc = .ok (.invokestatic i, 3))
    (K : Wc l D dA bs sb scr p e R s m args below meth c mc ms rc rs mth (pc + 3) ls r (cp h a sp b dp n) q) : Wc l D dA bs sb scr p e R s m args below meth c mc ms rc rs mth pc ls (.inl n :: .inl dp :: .inr (.inr b) :: .inl sp :: .inr (.inr a) :: r) h q := by
  intro H locs cells slots L hR hz hlo hc hs hL hst
  obtain ⟨hn, hst⟩ := ok_1 hst
  obtain ⟨hdp, hst⟩ := ok_1 hst
  obtain ⟨hbv, hst⟩ := ok_1 hst
  obtain ⟨hsp, hst⟩ := ok_1 hst
  obtain ⟨hav, hst⟩ := ok_1 hst
  have g := B.2.2.2.2.2.2.2.2
  have hA0 := B.2.2.2.2.2.2.2.1.2.2.1.2 0 _ rfl
  obtain ⟨a1, a2, a3, a4, a5, cell, q2, q3, q4, q5, q6⟩ := hR.arr B.2.2.2.2.2.2.2.1.2.2.1 B.2.2.2.2.2.2.2.1.2.2.2 ht (by decide)
  obtain ⟨b1, b2, b3, b4, b5, cel2, p2, p3, p4, p5, p6⟩ := hR.arr B.2.2.2.2.2.2.2.1.2.2.1 B.2.2.2.2.2.2.2.1.2.2.2 ht' (by decide)
  have ec := hR.arE ha2 ht (by decide) q2
  have ed := hR.arE hb2 ht' (by decide) p2
  rw [ht] at ec
  rw [ht'] at ed
  have ec : cell = arrV (dA 0) (ln h a).toNat (fun j => .int (Int32.ofInt (gv h a (j : Int)))) := ec
  have ed : cel2 = arrV (dA 0) (ln h b).toNat (fun j => .int (Int32.ofInt (gv h b (j : Int)))) := ed
  obtain ⟨-, k0, hk0, cm0, hkk0⟩ := hA0.1 0 (fun _ => .null)
  have hcs := cat_S (bs := bs) (sb := sb) r
  show W _ _ _ _ _ _ _ _ _ _ _ _ _ _ _ (F0 m pc L (.int (Int32.ofInt n) :: .int (Int32.ofInt dp) :: cv bs sb (.inr (.inr b)) :: .int (Int32.ofInt sp) :: cv bs sb (.inr (.inr a)) :: r.map (cv bs sb)))
  rw [cv_r (show a ≠ 0 by omega), cv_r (show b ≠ 0 by omega)]
  intro T hT X
  have nfw : nativeFrameWords "java/lang/System" "arraycopy" 5 + 11 ≤ 50 := by decide +kernel
  obtain ⟨vm', X', step⟩ := X.arraycopy B.1 B.2.2.2.1 (B.2.2.2.2.2.2.2.1.1 _ (wd_A hi) rfl args) (B.2.2.2.2.2.2.2.1.1 _ t_ncopy rfl args) (B.2.2.2.2.2.2.2.1.1 _ t_scopy rfl args) (B.2.2.2.2.2.2.2.1.1 _ t_isys rfl args)
    (src := adr bs sb a) (dst := adr bs sb b) (cs := cell) (cd := cel2) (srcPos := Int32.ofInt sp) (destPos := Int32.ofInt dp) (n := Int32.ofInt n) (by rw [hT]; exact q2) (by rw [hT]; exact p2) (fun k h => by rw [ec] at h; cases h) (fun k h => by rw [ed] at h; cases h) q4 p4 (ks := k0) (kd := k0) (by rw [ec]; exact hk0) (by rw [ed]; exact hk0) hkk0 hkk0 (by simp [refKind])
    (fun z => by have := (lt32 hsp i32_0).mp z; omega) (fun z => by have := (lt32 hdp i32_0).mp z; omega) (fun z => by have := (lt32 hn i32_0).mp z; omega)
    (by rw [o32 hsp, o32 hn, q5]; omega) (by rw [o32 hdp, o32 hn, p5]; omega)
    (fun vm₁ _ j hj => by
      rw [cl32 hn] at hj
      have e : cell.slots.getD ((Int32.ofInt sp).toNatClampNeg + j) .null = .int (Int32.ofInt (gv h a (sp + j))) := by
        rw [cl32 hsp, Array.getD_eq_getD_getElem?, ec, arrV_read _ _ (by omega)]
        show Value.int (Int32.ofInt (gv h a ((sp.toNat + j : Nat) : Int))) = _
        rw [show ((sp.toNat + j : Nat) : Int) = sp + (j : Int) by omega]
      rw [e]
      exact ⟨rfl, trivial⟩)
    (g := F0 m pc L (.int (Int32.ofInt n) :: .int (Int32.ofInt dp) :: .ref (adr bs sb b) :: .int (Int32.ofInt sp) :: .ref (adr bs sb a) :: r.map (cv bs sb))) rfl (by show L.size = _; rw [hL.1, B.2.2.1]) (rest := r.map (cv bs sb)) rfl (by rw [B.2.1]; exact hd) (by omega) (by show 2 * 0 + _ + _ ≤ _; omega)
  have e1 : copied cell cel2 (Int32.ofInt sp) (Int32.ofInt dp) (Int32.ofInt n) = arrV (dA 0) (ln h b).toNat (fun j => .int (Int32.ofInt (gv (cp h a sp b dp n) b (j : Int)))) := by
    show cel2.storeRun (Int32.ofInt dp).toNatClampNeg (cell.stretch (Int32.ofInt sp).toNatClampNeg (Int32.ofInt n).toNatClampNeg) = _
    rw [cl32 hsp, cl32 hdp, cl32 hn, ec, ed, va_copied (fun z => .int z) (dA 0) (dA 0) _ _ (by omega)]
    congr 1
    funext j
    congr 1
    show va_cpy _ _ _ _ _ j = _
    unfold va_cpy
    show _ = Int32.ofInt (if b = b ∧ dp ≤ (j : Int) ∧ (j : Int) < dp + n then gv h a (sp + ((j : Int) - dp)) else gv h b j)
    by_cases hj : dp.toNat ≤ j ∧ j < dp.toNat + n.toNat
    · rw [if_pos hj, if_pos ⟨rfl, by omega, by omega⟩]
      show Int32.ofInt (gv h a ((sp.toNat + (j - dp.toNat) : Nat) : Int)) = _
      rw [show ((sp.toNat + (j - dp.toNat) : Nat) : Int) = sp + ((j : Int) - dp) by omega]
    · rw [if_neg hj, if_neg (by omega)]
  rw [e1] at X' step
  have hbl : adr bs sb b < H.size := (Array.getElem?_eq_some_iff.mp p2).1
  generalize hN : arrV (dA 0) (ln h b).toNat (fun j => Value.int (Int32.ofInt (gv (cp h a sp b dp n) b (j : Int)))) = NC at X' step
  have hheap : ((T.setVm vm').setCell (adr bs sb b) NC).heap = H.setIfInBounds (adr bs sb b) NC := by rw [← hT]; rfl
  have oq : ∀ q : Nat, q ≠ adr bs sb b → (H.setIfInBounds (adr bs sb b) NC)[q]? = H[q]? := fun q hq => by simp [Array.getElem?_setIfInBounds, Ne.symm hq]
  have gC : ∀ x j, x ≠ b → gv (cp h a sp b dp n) x j = gv h x j := fun x j hx => by
    show (if x = b ∧ _ then _ else _) = _
    rw [if_neg (fun z => hx z.1)]
  have hR' : HR D dA bs sb scr (cp h a sp b dp n) (H.setIfInBounds (adr bs sb b) NC) := by
    obtain ⟨r1, r2, r3, hc', r5, r6, r7, r8, r9, r10, r11, r12⟩ := hR
    have hsb : sb ≠ adr bs sb b := by rw [adr_2 hb2]; omega
    refine ⟨r1, by rw [Array.size_setIfInBounds]; exact r2, r3, fun x g1 g2 => ?_, r5, r6, r7, r8, by rw [oq sb hsb]; exact r9, r10, r11, fun j g1 g2 => ?_⟩
    · by_cases hx : x = b
      · subst hx
        refine Or.inr ⟨by show 100 ≤ tg h x; omega, by show tg h x < 107; omega, b4, b5, ?_, fun j g1 g2 => ?_⟩
        · have : (H.setIfInBounds (adr bs sb x) NC)[adr bs sb x]? = some NC := by simp [Array.getElem?_setIfInBounds, hbl]
          rw [this, ← hN]
          show some _ = some (arE dA bs sb (tg h x) (ln h x) (gv (cp h a sp x dp n) x))
          rw [ht']
          rfl
        · show okx (nx h) (ek (tg h x)) (if x = x ∧ dp ≤ j ∧ j < dp + n then gv h a (sp + (j - dp)) else gv h x j)
          rw [ht']
          split
          · exact (q6 _ (by omega) (by omega)).2
          · exact (p6 _ g1 g2).2
      · exact (hc' x g1 g2).keep (fun j => gC x j hx) rfl rfl (Int.le_refl _) (oq _ (adr_ne r3 (by omega) (by omega) hx))
    · rw [gC 1 j (by omega)]; exact r12 j g1 g2
  obtain ⟨t, u1, u2⟩ := K (H.setIfInBounds (adr bs sb b) NC) _ cells slots L hR' (by rw [Array.size_setIfInBounds]; exact hz) (fun y hy => by
    rcases List.mem_append.mp hy with z | z
    · exact hlo y z
    · obtain ⟨w, -, rfl⟩ := List.mem_map.mp z
      show bs ≤ adr bs sb b
      rw [adr_2 hb2]
      exact Nat.le_add_right _ _) hc hs hL hst _ hheap X'
  exact ⟨t, step t u1, u2⟩
theorem s_mini (B : Bx D dA bs scr p R s m meth c mc ms d mth) {x y : Int} {i : Nat} (hi : lkO3 (mC mth) i lkX2 = true) (hd0 : 0 < d) (hcat : catS r ≤ 8) (hd : decode (minf mth).2.1 pc = .ok (.invokestatic i, 3))
    (K : Wc l D dA bs sb scr p e R s m args below meth c mc ms rc rs mth (pc + 3) ls (.inl (min x y) :: r) h q) : Wc l D dA bs sb scr p e R s m args below meth c mc ms rc rs mth pc ls (.inl y :: .inl x :: r) h q := by
  intro H locs cells slots L hR hz hlo hc hs hL hst
  obtain ⟨hy, hst⟩ := ok_1 hst
  obtain ⟨hx, hst⟩ := ok_1 hst
  have g := B.2.2.2.2.2.2.2.2
  have hcs := cat_S (bs := bs) (sb := sb) r
  refine va_mmin B.1 B.2.1 (by rw [B.2.2.1, hL.1]) B.2.2.2.1 (B.2.2.2.2.2.2.2.1.1 _ (wd_X2 hi) rfl args) (B.2.2.2.2.2.2.2.1.1 _ t_smi rfl args) (B.2.2.2.2.2.2.2.1.1 _ t_imath rfl args) (B.2.2.2.2.2.2.2.1.1 _ t_cmi rfl args) (by omega) (by omega) (by omega) (by omega) hd ?_
  have e : (if Int32.ofInt y < Int32.ofInt x then Int32.ofInt y else Int32.ofInt x) = Int32.ofInt (min x y) := by
    by_cases z : y < x
    · rw [if_pos ((lt32 hy hx).mpr z), Int.min_eq_right (by omega)]
    · rw [if_neg (fun w => z ((lt32 hy hx).mp w)), Int.min_eq_left (by omega)]
  rw [e]
  exact K H locs cells slots L hR hz hlo hc hs hL (ok_c (by rcases Int.le_total x y with z | z; rw [Int.min_eq_left z]; exact hx; rw [Int.min_eq_right z]; exact hy) hst)
theorem s_minl (B : Bx D dA bs scr p R s m meth c mc ms d mth) {x y : Int} {i : Nat} (hi : lkO3 (mC mth) i lkX4 = true) (hd0 : 0 < d) (hcat : catS r ≤ 8) (hd : decode (minf mth).2.1 pc = .ok (.invokestatic i, 3))
    (K : Wc l D dA bs sb scr p e R s m args below meth c mc ms rc rs mth (pc + 3) ls (.inr (.inl (min x y)) :: r) h q) : Wc l D dA bs sb scr p e R s m args below meth c mc ms rc rs mth pc ls (.inr (.inl y) :: .inr (.inl x) :: r) h q := by
  intro H locs cells slots L hR hz hlo hc hs hL hst
  obtain ⟨hy, hst⟩ := ok_1 hst
  obtain ⟨hx, hst⟩ := ok_1 hst
  have g := B.2.2.2.2.2.2.2.2
  have hcs := cat_S (bs := bs) (sb := sb) r
  refine va_mmin_long B.1 B.2.1 (by rw [B.2.2.1, hL.1]) B.2.2.2.1 (B.2.2.2.2.2.2.2.1.1 _ (wd_X4 hi) rfl args) (B.2.2.2.2.2.2.2.1.1 _ t_sml rfl args) (B.2.2.2.2.2.2.2.1.1 _ t_imath rfl args) (B.2.2.2.2.2.2.2.1.1 _ t_cml rfl args) (by omega) (by omega) (by omega) (by omega) hd ?_
  have e : (if Int64.ofInt y < Int64.ofInt x then Int64.ofInt y else Int64.ofInt x) = Int64.ofInt (min x y) := by
    by_cases z : y < x
    · rw [if_pos ((lt64 hy hx).mpr z), Int.min_eq_right (by omega)]
    · rw [if_neg (fun w => z ((lt64 hy hx).mp w)), Int.min_eq_left (by omega)]
  rw [e]
  exact K H locs cells slots L hR hz hlo hc hs hL (ok_c (by rcases Int.le_total x y with z | z; rw [Int.min_eq_left z]; exact hx; rw [Int.min_eq_right z]; exact hy) hst)
theorem s_maxl (B : Bx D dA bs scr p R s m meth c mc ms d mth) {x y : Int} {i : Nat} (hi : lkO3 (mC mth) i lkX3 = true) (hd0 : 0 < d) (hcat : catS r ≤ 8) (hd : decode (minf mth).2.1 pc = .ok (.invokestatic i, 3))
    (K : Wc l D dA bs sb scr p e R s m args below meth c mc ms rc rs mth (pc + 3) ls (.inr (.inl (max x y)) :: r) h q) : Wc l D dA bs sb scr p e R s m args below meth c mc ms rc rs mth pc ls (.inr (.inl y) :: .inr (.inl x) :: r) h q := by
  intro H locs cells slots L hR hz hlo hc hs hL hst
  obtain ⟨hy, hst⟩ := ok_1 hst
  obtain ⟨hx, hst⟩ := ok_1 hst
  have g := B.2.2.2.2.2.2.2.2
  have hcs := cat_S (bs := bs) (sb := sb) r
  refine va_mmax_long B.1 B.2.1 (by rw [B.2.2.1, hL.1]) B.2.2.2.1 (B.2.2.2.2.2.2.2.1.1 _ (wd_X3 hi) rfl args) (B.2.2.2.2.2.2.2.1.1 _ t_sxl rfl args) (B.2.2.2.2.2.2.2.1.1 _ t_imath rfl args) (B.2.2.2.2.2.2.2.1.1 _ t_cxl rfl args) (by omega) (by omega) (by omega) (by omega) hd ?_
  have e : (if Int64.ofInt y < Int64.ofInt x then Int64.ofInt x else Int64.ofInt y) = Int64.ofInt (max x y) := by
    by_cases z : y < x
    · rw [if_pos ((lt64 hy hx).mpr z), Int.max_eq_left (by omega)]
    · rw [if_neg (fun w => z ((lt64 hy hx).mp w)), Int.max_eq_right (by omega)]
  rw [e]
  exact K H locs cells slots L hR hz hlo hc hs hL (ok_c (by rcases Int.le_total x y with z | z; rw [Int.max_eq_right z]; exact hy; rw [Int.max_eq_left z]; exact hx) hst)
theorem s_objinit (B : Bx D dA bs scr p R s m meth c mc ms d mth) {a : Int} {i : Nat} (hi : lkO3 (mC mth) i lkO = true) (ha : 0 < a) (hd0 : 0 < d) (hcat : catS r ≤ 8) (hd : decode (minf mth).2.1 pc = .ok (.invokespecial i, 3))
    (K : Wc l D dA bs sb scr p e R s m args below meth c mc ms rc rs mth (pc + 3) ls r h q) : Wc l D dA bs sb scr p e R s m args below meth c mc ms rc rs mth pc ls (.inr (.inr a) :: r) h q := by
  intro H locs cells slots L hR hz hlo hc hs hL hst
  obtain ⟨hx, hst⟩ := ok_1 hst
  have g := B.2.2.2.2.2.2.2.2
  have hcs := cat_S (bs := bs) (sb := sb) r
  rw [List.map_cons, cv_r (show a ≠ 0 by omega)]
  exact W.objInit B.1 B.2.1 B.2.2.2.1 (B.2.2.2.2.2.2.2.1.1 _ (wd_O hi) rfl args) (B.2.2.2.2.2.2.2.1.1 _ t_obji rfl args) (B.2.2.2.2.2.2.2.1.1 _ t_obj rfl args) rfl (by show L.size = _; rw [hL.1, B.2.2.1]) rfl hd (by omega) (by show 2 * 0 + _ + 12 ≤ _; omega) (K H locs cells slots L hR hz hlo hc hs hL hst)
theorem mR_ok (m : Nat) (hm : m ≤ M_L_law) : (mR m = 0 → (minf m).2.2.2.1 = none) ∧ (mR m = 1 → (minf m).2.2.2.1 = some .int) ∧ (mR m = 2 → (minf m).2.2.2.1 = some .long) ∧ (mR m = 4 → (minf m).2.2.2.1 = some .boolean) ∧ (mR m = 3 → (minf m).2.2.2.1 = some (.object "SquadronFlags$Book") ∨ (minf m).2.2.2.1 = some (.array .int)) := by
  rcases Nat.lt_or_ge m M_L_law with h | h
  · have hw := chk_words m h
    unfold chkW at hw
    simp only [Bool.and_eq_true, decide_eq_true_eq, Bool.or_eq_true] at hw
    obtain ⟨⟨_, h1⟩, h2⟩ := hw
    unfold mR
    refine ⟨fun e => ?_, fun e => ?_, fun e => ?_, fun e => ?_, fun e => ?_⟩
    · rw [e] at h1; exact h1
    · rw [e] at h1; exact h1
    · rw [e] at h1; exact h1
    · rw [e] at h1; exact h1
    · rcases h2 with z | z
      · exact absurd e z
      · exact z
  · have : m = M_L_law := Nat.le_antisymm hm h
    subst this
    refine ⟨fun e => ?_, fun e => ?_, fun e => ?_, fun _ => rfl, fun e => ?_⟩ <;> exact absurd e (by decide)
theorem s_ireturn (B : Bx D dA bs scr p R s m meth c mc ms d mth) {x : Int} (hr : mR mth = 1 ∨ (mR mth = 4 ∧ (x = 0 ∨ x = 1))) (hq : q (some (.inl x)) h) (hd : decode (minf mth).2.1 pc = .ok (.ireturn, 1)) : Wc l D dA bs sb scr p e R s m args below meth c mc ms rc rs mth pc ls [.inl x] h q := by
  intro H locs cells slots L hR hz hlo hc hs hL hst
  obtain ⟨hx, -⟩ := ok_1 hst
  obtain ⟨-, r1, -, r4, -⟩ := mR_ok mth B.2.2.2.2.2.2.2.2.2.2.2.2.2.2
  refine W.widen (k := mc) (n := ms) (by omega) (by omega) ?_
  have hQ : ∀ t : State, t.heap = H → s.WarmedH t.vm → QC D dA bs sb scr q args s (.returned (some (.int (Int32.ofInt x)))) t := fun t ht hw => ⟨some (.inl x), h, rfl, hq, by rw [ht]; exact hR, fun y hy => by cases hy; exact hx, by rw [ht]; exact hz⟩
  rcases hr with e | ⟨e, hx01⟩
  · exact W.iret B.1 B.2.1 (by rw [B.2.2.2.2.1]; exact r1 e) hQ hlo hd B.2.2.2.2.2.2.1
  · exact W.zret B.1 B.2.1 (ty := .boolean) (by rw [B.2.2.2.2.1]; exact r4 e) (nar_z (by omega)) hQ hlo hd B.2.2.2.2.2.2.1
theorem s_lreturn (B : Bx D dA bs scr p R s m meth c mc ms d mth) {x : Int} (hr : mR mth = 2) (hq : q (some (.inr (.inl x))) h) (hd : decode (minf mth).2.1 pc = .ok (.lreturn, 1)) : Wc l D dA bs sb scr p e R s m args below meth c mc ms rc rs mth pc ls [.inr (.inl x)] h q := by
  intro H locs cells slots L hR hz hlo hc hs hL hst
  obtain ⟨hx, -⟩ := ok_1 hst
  obtain ⟨-, -, r2, -, -⟩ := mR_ok mth B.2.2.2.2.2.2.2.2.2.2.2.2.2.2
  refine W.widen (k := mc) (n := ms) (by omega) (by omega) ?_
  exact W.lret B.1 B.2.1 (by rw [B.2.2.2.2.1]; exact r2 hr) (fun t ht hw => ⟨some (.inr (.inl x)), h, rfl, hq, by rw [ht]; exact hR, fun y hy => by cases hy; exact hx, by rw [ht]; exact hz⟩) hlo hd B.2.2.2.2.2.2.1
theorem s_areturn (B : Bx D dA bs scr p R s m meth c mc ms d mth) {x : Int} (hr : mR mth = 3) (hq : q (some (.inr (.inr x))) h) (hd : decode (minf mth).2.1 pc = .ok (.areturn, 1)) : Wc l D dA bs sb scr p e R s m args below meth c mc ms rc rs mth pc ls [.inr (.inr x)] h q := by
  intro H locs cells slots L hR hz hlo hc hs hL hst
  obtain ⟨hx, -⟩ := ok_1 hst
  obtain ⟨-, -, -, -, r3⟩ := mR_ok mth B.2.2.2.2.2.2.2.2.2.2.2.2.2.2
  refine W.widen (k := mc) (n := ms) (by omega) (by omega) ?_
  have hQ : ∀ t : State, t.heap = H → s.WarmedH t.vm → QC D dA bs sb scr q args s (.returned (some (cv bs sb (.inr (.inr x))))) t := fun t ht hw => ⟨some (.inr (.inr x)), h, rfl, hq, by rw [ht]; exact hR, fun y hy => by cases hy; exact hx, by rw [ht]; exact hz⟩
  have hv : cv bs sb (.inr (.inr x)) = .null ∨ ∃ a, cv bs sb (.inr (.inr x)) = .ref a := by
    show (if x = 0 then Value.null else Value.ref (adr bs sb x)) = .null ∨ ∃ a, (if x = 0 then Value.null else Value.ref (adr bs sb x)) = .ref a
    split
    · exact Or.inl rfl
    · exact Or.inr ⟨_, rfl⟩
  rcases r3 hr with z | z
  · exact W.aret B.1 B.2.1 (by rw [B.2.2.2.2.1]; exact z) (Or.inl ⟨_, rfl⟩) hv hQ hlo hd B.2.2.2.2.2.2.1
  · exact W.aret B.1 B.2.1 (by rw [B.2.2.2.2.1]; exact z) (Or.inr ⟨_, rfl⟩) hv hQ hlo hd B.2.2.2.2.2.2.1
theorem s_return (B : Bx D dA bs scr p R s m meth c mc ms d mth) (hr : mR mth = 0) (hq : q none h) (hd : decode (minf mth).2.1 pc = .ok (.return_, 1)) : Wc l D dA bs sb scr p e R s m args below meth c mc ms rc rs mth pc ls [] h q := by
  intro H locs cells slots L hR hz hlo hc hs hL hst
  obtain ⟨r0, -⟩ := mR_ok mth B.2.2.2.2.2.2.2.2.2.2.2.2.2.2
  refine W.widen (k := mc) (n := ms) (by omega) (by omega) ?_
  exact W.vret B.1 B.2.1 (by rw [B.2.2.2.2.1]; exact r0 hr) (fun t ht hw => ⟨none, h, rfl, hq, by rw [ht]; exact hR, fun y hy => (by cases hy), by rw [ht]; exact hz⟩) hlo hd B.2.2.2.2.2.2.1
theorem s_aastore (B : Bx D dA bs scr p R s m meth c mc ms d mth) {a i x : Int} (ha2 : 2 ≤ a) (ht : tg h a = 105) (hx1 : tg h x = 1) (h0 : 0 ≤ i) (h1 : i < ln h a) (hd : decode (minf mth).2.1 pc = .ok (.aastore, 1))
    (K : Wc l D dA bs sb scr p e R s m args below meth c mc ms rc rs mth (pc + 1) ls r (sv h a i x) q) : Wc l D dA bs sb scr p e R s m args below meth c mc ms rc rs mth pc ls (.inr (.inr x) :: .inl i :: .inr (.inr a) :: r) h q := by
  intro H locs cells slots L hR hz hlo hc hs hL hst
  obtain ⟨hx, hst⟩ := ok_1 hst
  obtain ⟨hi, hst⟩ := ok_1 hst
  obtain ⟨ha, hst⟩ := ok_1 hst
  obtain ⟨a1, a2, a3, a4, a5, cell, q2, q3, q4, q5, q6⟩ := hR.arr B.2.2.2.2.2.2.2.1.2.2.1 B.2.2.2.2.2.2.2.1.2.2.2 ht (by decide)
  obtain ⟨x2, x3, ⟨cellV, g1, g2, g3, g4⟩, -⟩ := hR.obj (c := 1) hx1 (by decide)
  have ec : cell = arE dA bs sb (tg h a) (ln h a) (gv h a) := hR.arE ha2 ht (by decide) q2
  have hcls := (B.2.2.2.2.2.2.2.1.2.2.1.1 1 _ (qc_at 1 (by decide))).2
  obtain ⟨kA, comp, k1, k2, k3, -⟩ := (B.2.2.2.2.2.2.2.1.2.2.1.2 5 _ rfl).2
  have hcomp : comp = D.1 1 := Option.some.inj (k3.symm.trans hcls.1)
  subst hcomp
  obtain ⟨kC, hkC, -⟩ := hcls.2
  have ecl : cell.cls = dA 5 := by rw [ec, ht]; rfl
  rw [List.map_cons, List.map_cons, List.map_cons, cv_r (show a ≠ 0 by omega), cv_r (show x ≠ 0 by omega)]
  refine W.aast B.1 B.2.1 q2 (fun q h => by rw [ec] at h; cases h) q4 (by rw [ecl]; exact k1) k2 rfl hkC ⟨fun z => by have := (lt32 hi i32_0).mp z; omega, by rw [cl32 hi, q5]; omega⟩ g1 (fun q h => by rw [g3] at h; cases h) (by rw [g2]; exact hkC) (by rw [g2]; exact va_assign hcls) rfl rfl hd fun H' e1 e2 e3 => ?_
  rw [cl32 hi, ec, ← cv_r (bs := bs) (sb := sb) (show x ≠ 0 by omega)] at e1
  exact K H' _ cells slots L (hR.sta ht (by decide) ha2 h0 hx e1 e2 e3) (by rw [e2]; exact hz) (fun y hy => by
    rcases List.mem_append.mp hy with z | z
    · exact hlo y z
    · rw [List.mem_singleton.mp z, adr_2 ha2]; exact Nat.le_add_right _ _) hc hs hL hst
end SND
