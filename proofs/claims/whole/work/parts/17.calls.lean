/-! SOUNDNESS, 5: calls -/
def GWl : List Jvm.Cond := lw_tbl.filter goodWord
theorem GWl_mem {w : Jvm.Cond} : w ∈ GWl ↔ w ∈ lw_tbl ∧ goodWord w = true := List.mem_filter
theorem ite_P {c : Prop} [Decidable c] {a b : Nat × Nat} (ha : a.2 ≤ 7302250) (hb : b.2 ≤ 7302250) : (if c then a else b).2 ≤ 7302250 := by
  split
  · exact ha
  · exact hb
theorem aCS_le (k : Nat) : (aCS k).2 ≤ 7302250 := by
  unfold aCS
  repeat (refine ite_P (by decide) ?_)
  decide
theorem entL_len {bs sb : Nat} : ∀ as : List PV, (lg_sl (as.map (cv bs sb))).length = (entL as).length
  | [] => rfl
  | .inl x :: r => by
    have := entL_len (bs := bs) (sb := sb) r
    simp only [lg_sl, List.map_cons, List.flatMap_cons, List.length_append, entL, List.length_cons] at this ⊢
    rw [this]
    show 1 + _ = _
    omega
  | .inr (.inl x) :: r => by
    have := entL_len (bs := bs) (sb := sb) r
    simp only [lg_sl, List.map_cons, List.flatMap_cons, List.length_append, entL, List.length_cons] at this ⊢
    rw [this]
    show 2 + _ = _
    omega
  | .inr (.inr a) :: r => by
    have := entL_len (bs := bs) (sb := sb) r
    simp only [lg_sl, List.map_cons, List.flatMap_cons, List.length_append, entL, List.length_cons] at this ⊢
    rw [this, if_neg (by rw [cat_1 (v := .inr (.inr a)) (fun x e => by cases e)]; decide)]
    show 1 + _ = _
    omega
theorem entL_arg {bs sb : Nat} : ∀ (as : List PV) (i j : Nat) (v : PV), (entL as)[j]? = some (some v) → (i + j, cv bs sb v) ∈ lv_args i (as.map (cv bs sb)) ∧ v ∈ as
  | [], i, j, v, h => by cases h
  | .inl x :: r, i, j, v, h => by
    cases j with
    | zero => cases h; exact ⟨List.mem_cons_self, List.mem_cons_self⟩
    | succ j =>
      obtain ⟨h1, h2⟩ := entL_arg (bs := bs) (sb := sb) r (i + 1) j v h
      rw [show i + 1 + j = i + (j + 1) by omega] at h1
      exact ⟨List.mem_cons_of_mem _ h1, List.mem_cons_of_mem _ h2⟩
  | .inr (.inl x) :: r, i, j, v, h => by
    match j, h with
    | 0, h => cases h; exact ⟨List.mem_cons_self, List.mem_cons_self⟩
    | 1, h => cases h
    | j + 2, h =>
      obtain ⟨h1, h2⟩ := entL_arg (bs := bs) (sb := sb) r (i + 2) j v h
      rw [show i + 2 + j = i + (j + 2) by omega] at h1
      exact ⟨List.mem_cons_of_mem _ h1, List.mem_cons_of_mem _ h2⟩
  | .inr (.inr a) :: r, i, j, v, h => by
    cases j with
    | zero => cases h; exact ⟨List.mem_cons_self, List.mem_cons_self⟩
    | succ j =>
      obtain ⟨h1, h2⟩ := entL_arg (bs := bs) (sb := sb) r (i + 1) j v h
      rw [show i + 1 + j = i + (j + 1) by omega] at h1
      refine ⟨?_, List.mem_cons_of_mem _ h2⟩
      show _ ∈ (i, cv bs sb (.inr (.inr a))) :: lv_args (if (cv bs sb (.inr (.inr a))).category = 2 then i + 2 else i + 1) _
      rw [if_neg (by rw [cat_1 (v := .inr (.inr a)) (fun x e => by cases e)]; decide)]
      exact List.mem_cons_of_mem _ h1
theorem RLo.ent {bs sb : Nat} {n : Int} {k : Nat} {as : List PV} {L : Array Slot} (hle : (entL as).length ≤ mML k) (hA : ∀ v ∈ as, okv n v) (h : lv_has L (mML k) (lv_args 0 (as.map (cv bs sb)))) : RLo bs sb n (entry k as) L (mML k) := by
  refine ⟨h.1, h.2.1, ?_, fun j v hj => ?_⟩
  · unfold entry
    rw [List.length_append, List.length_replicate]
    omega
  · unfold entry at hj
    rcases Nat.lt_or_ge j (entL as).length with q | q
    · rw [List.getElem?_append_left q] at hj
      obtain ⟨h1, h2⟩ := entL_arg (bs := bs) (sb := sb) as 0 j v hj
      rw [Nat.zero_add] at h1
      exact ⟨h.2.2 _ h1, hA v h2⟩
    · rw [List.getElem?_append_right q, List.getElem?_replicate] at hj
      split at hj <;> cases hj
/-- what a callee asks -/
def PcE (D : va_G) (dA : Nat → ClassId) (bs sb : Nat) (scr : Cell) (As : List PV) (h : PH) : Array Value → State → Prop := fun a U => a = (As.map (cv bs sb)).toArray ∧ HR D dA bs sb scr h U.heap ∧ KN D dA scr U ∧ bs ≤ U.heap.size
theorem PcE.blind {D : va_G} {dA : Nat → ClassId} {bs sb : Nat} {scr : Cell} {As : List PV} {h : PH} : FrameBlind (PcE D dA bs sb scr As h) := fun _ _ _ _ z => ⟨z.1, z.2.1, z.2.2.1.same rfl, z.2.2.2⟩
abbrev rmE (d k : Nat) : Room := { frames := d, cells := (aCS k).1, slots := (aCS k).2, locals := 64 * d }
abbrev wsE (k : Nat) : List Jvm.Cond := Jvm.Cond.code (minf k).1 (minf k).2.1 (mML k) (minf k).2.2.2.1 :: GWl
theorem chkW_use {k : Nat} (hk : k < M_L_law) : Jvm.Cond.initialized (minf k).1.cls ∈ lw_tbl ∧ (if mK k = 0 then Jvm.Cond.static (minf k).1 else Jvm.Cond.instanceMethod (minf k).1) ∈ lw_tbl ∧ (mK k = 1 → Jvm.Cond.selects (minf k).1.cls (minf k).1 (minf k).1 ∈ lw_tbl) ∧ (minf k).1.cls = cnm (mC k) ∧ ((minf k).1.name = "<init>" ↔ mK k = 2) ∧
    ((minf k).1.cls ≠ "java/lang/invoke/MethodHandle" ∧ (minf k).1.cls ≠ "java/lang/invoke/VarHandle") ∧ plainName (minf k).1.cls = true ∧ (parseMethodDescriptor (minf k).1.desc).map (fun d => d.parameters.length) = some (if mK k = 0 then mN k else mN k - 1) ∧ mC k < 16 ∧ mML k ≤ 16 := by
  have hw := chk_words k hk
  unfold chkW at hw
  simp only [Bool.and_eq_true, decide_eq_true_eq, Bool.or_eq_true] at hw
  obtain ⟨⟨⟨⟨⟨⟨⟨⟨⟨⟨⟨⟨w1, w2⟩, w3⟩, w4⟩, w5⟩, w6⟩, w7⟩, w8⟩, w9⟩, w10⟩, w11⟩, w12⟩, w13⟩ := hw
  refine ⟨List.mem_of_getElem? w1, List.mem_of_getElem? w2, fun e => ?_, w4, ?_, ⟨w6, w7⟩, w8, w9, w10, w11⟩
  · rcases w3 with z | z
    · exact absurd e z
    · exact List.mem_of_getElem? z
  · exact Iff.of_eq w5
theorem mNR_all : ∀ k, k < M_L_law → (mK k ≠ 0 → 0 < mN k) ∧ (mK k = 2 → mR k = 0) := by decide +kernel
theorem mN_pos {k : Nat} (hk : k < M_L_law) (h : mK k ≠ 0) : 0 < mN k := (mNR_all k hk).1 h
theorem mR_init {k : Nat} (hk : k < M_L_law) (h : mK k = 2) : mR k = 0 := (mNR_all k hk).2 h
section SND
variable {l : Launch} {D : va_G} {dA : Nat → ClassId} {bs sb : Nat} {scr : Cell} {p : Program} {e : Env} {R : Room} {s : State} {m : MethodId} {args : Array Value} {below : List Frame} {meth : Method} {c : Code} {mc ms d rc rs mth pc : Nat} {ls : List (Option PV)} {r : List PV} {h : PH} {q : PQ}
theorem met_of {k d' : Nat} {As : List PV} {q1 : PQ} (hk : k < M_L_law) (hS : Wsem l D dA bs sb scr d' (aCS k).1 (aCS k).2 k 0 (entry k As) [] h q1) (hle : (entL As).length ≤ mML k) (hA : ∀ v ∈ As, okv (nx h) v) :
    Met l (minf k).1 (wsE k) (rmE d' k) (PcE D dA bs sb scr As h) (QC D dA bs sb scr q1) (aCS k).1 (aCS k).2 (fun x => bs ≤ x) := by
  obtain ⟨u1, u2, u3, u4, u5, u6, u7, u8, u9, u10⟩ := chkW_use hk
  refine Met.ofW (cc := (minf k).2.1) (maxL := mML k) (ret := (minf k).2.2.2.1) u7 rfl ?_
  intro p e s m args below meth c s₁ B hml hP
  obtain ⟨rfl, hR, hKN, hb⟩ := hP
  have hl := lv_entry (As.map (cv bs sb)) (n := mML k) (by rw [entL_len]; exact hle)
  rw [lg_entry_eq]
  generalize (lg_sl (As.map (cv bs sb)) ++ List.replicate (mML k - (lg_sl (As.map (cv bs sb))).length) Slot.unset).toArray = L at hl ⊢
  have hown : s.vm.findClass (minf k).1.cls = some m.cls := findClass_of_methodNamed B.named
  rw [u4] at hown
  have hnm := (name_of_methodNamed B.named B.method).1
  exact hS p e (rmE d' k) s m _ below meth c (aCS k).1 (aCS k).2 ⟨B.exec, B.bytes, hml, hown, B.returns, fun z => by rw [hnm]; exact u5.mpr z, B.notSynchronized, hKN, Nat.le_refl _, Nat.le_refl _, Nat.le_refl _, Nat.le_refl _, aCS_le k, hb, Nat.le_of_lt hk⟩
    s.heap [] 0 0 L hR (Nat.le_refl _) (fun _ z => by cases z) (by omega) (by omega) (RLo.ent hle hA hl) (fun _ z => by cases z)
theorem HR.objc {H : Heap} {a : Int} {k : Nat} (hR : HR D dA bs sb scr h H) (ht : tg h a = (k : Int)) (hk : k < 16) : k < 13 := by
  obtain ⟨h1, h2⟩ := hR.in ht (by omega)
  obtain ⟨_, _, _, hc', _, h1t, _⟩ := hR
  by_cases ha : a = 1
  · rw [ha, h1t] at ht; omega
  · rcases hc' a (by omega) h2 with ⟨c', q1, q2, _⟩ | ⟨q1, _⟩ <;> omega
/-- what follows a call that ran -/
theorem ret_of {k n : Nat} {st : List PV} {q1 : PQ} {H : Heap} {locs : List Loc} {cells slots : Nat} {L : Array Slot} {Aa : Array Value} (B : Bx D dA bs scr p R s m meth c mc ms d mth)
    (hK : ∀ (r : Option PV) (h' : PH), q1 r h' → Wsem l D dA bs sb scr d (rc - (aCS k).1) (rs - (aCS k).2) mth (pc + 3) ls (r.toList ++ st.drop n) h' q)
    (hR : HR D dA bs sb scr h H) (hz : s.heap.size ≤ H.size) (hlo : ∀ x ∈ locs, bs ≤ x.base) (hc : cells + rc ≤ mc) (hs : slots + rs ≤ ms) (hc1 : (aCS k).1 ≤ rc) (hs1 : (aCS k).2 ≤ rs) (hL : RLo bs sb (nx h) ls L (mML mth)) (hst : ∀ v ∈ st, okv (nx h) v)
    (hr : va_Run p l e R s m args below meth c H locs cells slots (aCS k).1 (aCS k).2 (F0 m pc L (st.map (cv bs sb))) ((st.drop n).map (cv bs sb)) (QC D dA bs sb scr q1 Aa) (fun x => bs ≤ x)) :
    W p l e R s m args below meth c H locs cells slots (MQ below (QC D dA bs sb scr q) args s mc ms (fun x => bs ≤ x)) (F0 m pc L (st.map (cv bs sb))) := by
  intro T hT X
  obtain ⟨v, st₀, t, T', L2, h0, X', hL', e1, e2, ⟨v', h', ev, hq1, hR', hv', hsz⟩, step⟩ := hr T hT X
  have ev : v = v'.map (cv bs sb) := by injection ev
  subst ev
  have hnx : nx h ≤ nx h' := by
    have a1 := hR.2.1
    have a2 := hR'.2.1
    have a3 := hR.1
    have a4 := hR'.1
    rw [h0] at hsz
    omega
  rw [← e1] at hR'
  obtain ⟨t2, b1, b2⟩ := hK v' h' hq1 p e R s m args below meth c mc ms B T'.heap (locs ++ L2) (cells + (aCS k).1) (slots + (aCS k).2) L hR' (by rw [e1, ]; rw [h0] at hsz; omega) (fun x hx => by
      rcases List.mem_append.mp hx with z | z
      · exact hlo x z
      · exact hL' x z) (by omega) (by omega) (hL.mono hnx) (fun w hw => by
      rcases List.mem_append.mp hw with z | z
      · exact hv' w (by cases v' <;> simp_all)
      · exact okv_mono hnx (hst w (List.mem_of_mem_drop z))) T' rfl X'
  refine ⟨t2, step t2 ?_, b2⟩
  have es : (v'.toList ++ st.drop n).map (cv bs sb) = (v'.map (cv bs sb)).toList ++ (st.drop n).map (cv bs sb) := by
    rw [List.map_append]
    cases v' <;> rfl
  rw [es] at b1
  exact b1
theorem cB {own : String} {index k n : Nat} (hk : k < M_L_law) (hn : (parseMethodDescriptor (minf k).1.desc).map (fun d => d.parameters.length) = some n) (hKN : KN D dA scr s) (hd0 : 0 < d) (hf : d ≤ R.frames) (hl : 64 * d ≤ R.locals) :
    (rmE (d - 1) k).cells = (aCS k).1 ∧ (rmE (d - 1) k).slots = (aCS k).2 ∧ (rmE (d - 1) k).frames + 1 ≤ R.frames ∧ 8 + (mML k + 11) + (rmE (d - 1) k).locals ≤ R.locals ∧ (∀ w ∈ wsE k, ∀ (a' : Array Value) (U : State), s.WarmedH U.vm → w.before a' U = true) ∧ Jvm.Cond.code (minf k).1 (minf k).2.1 (mML k) (minf k).2.2.2.1 ∈ wsE k ∧
    (Jvm.Cond.code (minf k).1 (minf k).2.1 (mML k) (minf k).2.2.2.1).before args s = true ∧ (Jvm.Cond.initialized (minf k).1.cls).before args s = true ∧ (∀ sig, parseMethodDescriptor (minf k).1.desc = some sig → n = sig.parameters.length) := by
  obtain ⟨u1, u2, u3, u4, u5, u6, u7, u8, u9, u10⟩ := chkW_use hk
  refine ⟨rfl, rfl, by show d - 1 + 1 ≤ _; omega, by show 8 + (mML k + 11) + 64 * (d - 1) ≤ _; omega, fun w hw a' U hW => ?_, List.mem_cons_self, hKN.1 _ (chk_code k hk) rfl args, hKN.1 _ u1 rfl args, fun sig hsig => ?_⟩
  · rcases List.mem_cons.mp hw with rfl | hw
    · exact (hKN.warm hW).1 _ (chk_code k hk) rfl a'
    · obtain ⟨g1, g2⟩ := GWl_mem.mp hw
      exact (hKN.warm hW).1 _ g1 g2 a'
  · rw [hsig] at hn
    exact (Option.some.inj hn).symm
theorem s_static (B : Bx D dA bs scr p R s m meth c mc ms d mth) {k i : Nat} {st : List PV} (hl : lkF3 (mC mth) i lkM = some k) (hd : decode (minf mth).2.1 pc = .ok (.invokestatic i, 3)) (HC : callP (Wsem l D dA bs sb scr) k 0 3 d rc rs mth pc ls st h q) : Wc l D dA bs sb scr p e R s m args below meth c mc ms rc rs mth pc ls st h q := by
  intro H locs cells slots L hR hz hlo hc hs hL hst
  obtain ⟨hk, hk0, hn, hd0, hc1, hs1, hcat, hent, -, q1, hS, hK⟩ := HC
  obtain ⟨u1, u2, u3, u4, u5, u6, u7, u8, u9, u10⟩ := chkW_use hk
  rw [if_pos hk0] at u2 u8
  obtain ⟨⟨nest, hw⟩, -⟩ := wd_M hl
  have g := B.2.2.2.2.2.2.2.2
  have hKN := B.2.2.2.2.2.2.2.1
  have hA : ∀ v ∈ (st.take (mN k)).reverse, okv (nx h) v := fun v hv => hst v (List.mem_of_mem_take (List.mem_reverse.mp hv))
  have hM := met_of hk hS hent hA
  obtain ⟨c1, c2, c3, c4, c5, c6, c7, c8, c9⟩ := cB (args := args) (own := cnm (mC mth)) (index := i) hk u8 hKN hd0 g.1 g.2.1
  have hpre : PreS s H (PcE D dA bs sb scr (st.take (mN k)).reverse h) ((st.take (mN k)).reverse.map (cv bs sb)) := ⟨PcE.blind, fun U hU hW => ⟨rfl, by rw [hU]; exact hR, hKN.warm hW, by rw [hU]; omega⟩⟩
  have hstk : (F0 m pc L (st.map (cv bs sb))).stack = ((st.take (mN k)).reverse.map (cv bs sb)).reverse ++ (st.drop (mN k)).map (cv bs sb) := by
    show st.map (cv bs sb) = _
    rw [List.map_reverse, List.reverse_reverse, ← List.map_append, List.take_append_drop]
  have hlen : ((st.take (mN k)).reverse.map (cv bs sb)).length = mN k := by rw [List.length_map, List.length_reverse, List.length_take]; omega
  have hcatv : 2 * (F0 m pc L (st.map (cv bs sb))).monitorRoom + (((st.drop (mN k)).map (cv bs sb)).map fun v => v.category).sum ≤ 8 := by rw [cat_S]; show 2 * 0 + _ ≤ 8; omega
  have hfix : CallFix p m c (minf mth).2.1 (mML mth) s args GWl (cnm (mC mth)) := ⟨B.1, B.2.1, B.2.2.1, B.2.2.2.1, fun w hw => hKN.1 _ (GWl_mem.mp hw).1 (GWl_mem.mp hw).2 args⟩
  refine ret_of (k := k) (n := mN k) (Aa := ((st.take (mN k)).reverse.map (cv bs sb)).toArray) B hK hR hz hlo hc hs hc1 hs1 hL hst ?_
  cases nest with
  | true =>
    rw [if_pos rfl] at hw
    exact va_runSN hfix hM ⟨⟨⟨c1, c2, c3, c4, c5, c6⟩, c7, c8, u6, c9, va_Nw.use rfl (hKN.2.1 _ hw rfl)⟩, hKN.1 _ u2 rfl args, trivial⟩ hpre rfl hlen hL.1 hstk hcatv hd ⟨by omega, by omega⟩
  | false =>
    rw [if_neg (by decide)] at hw
    exact va_runS hfix hM ⟨⟨c1, c2, c3, c4, c5, c6, c7, c8, u6, c9, hKN.1 _ hw rfl args⟩, hKN.1 _ u2 rfl args⟩ hpre rfl hlen hL.1 hstk hcatv hd ⟨by omega, by omega⟩
/-- the receiver and the other arguments, out of the stack -/
theorem recv_split {k : Nat} {st : List PV} (hn : mN k ≤ st.length) (hn1 : 0 < mN k) (hr : recv h (mC k) st[mN k - 1]?) : ∃ (a : Int) (As : List PV), tg h a = (mC k : Int) ∧ (st.take (mN k)).reverse = .inr (.inr a) :: As ∧ As.length = mN k - 1 ∧ st = As.reverse ++ .inr (.inr a) :: st.drop (mN k) := by
  have hlt : mN k - 1 < st.length := by omega
  rw [List.getElem?_eq_getElem hlt] at hr
  generalize hg : st[mN k - 1] = v at hr
  rcases v with x | x | a
  · exact hr.elim
  · exact hr.elim
  · have e1 : st.take (mN k) = st.take (mN k - 1) ++ [.inr (.inr a)] := by
      have := List.take_succ_eq_append_getElem (l := st) (i := mN k - 1) hlt
      rw [show mN k - 1 + 1 = mN k by omega, hg] at this
      exact this
    refine ⟨a, (st.take (mN k - 1)).reverse, hr, by rw [e1]; simp, by simp; omega, ?_⟩
    rw [List.reverse_reverse]
    have := (List.take_append_drop (mN k) st).symm
    rw [e1, List.append_assoc] at this
    exact this
theorem s_virtual (B : Bx D dA bs scr p R s m meth c mc ms d mth) {k i : Nat} {st : List PV} (hl : lkF3 (mC mth) i lkM = some k) (hd : decode (minf mth).2.1 pc = .ok (.invokevirtual i, 3)) (HC : callP (Wsem l D dA bs sb scr) k 1 3 d rc rs mth pc ls st h q) : Wc l D dA bs sb scr p e R s m args below meth c mc ms rc rs mth pc ls st h q := by
  intro H locs cells slots L hR hz hlo hc hs hL hst
  obtain ⟨hk, hk0, hn, hd0, hc1, hs1, hcat, hent, hrv, q1, hS, hK⟩ := HC
  obtain ⟨u1, u2, u3, u4, u5, u6, u7, u8, u9, u10⟩ := chkW_use hk
  rw [if_neg (by omega)] at u2 u8
  have u3 := u3 hk0
  obtain ⟨⟨nest, hw⟩, -⟩ := wd_M hl
  have g := B.2.2.2.2.2.2.2.2
  have hKN := B.2.2.2.2.2.2.2.1
  have hrv := hrv (by decide)
  have hn1 : 0 < mN k := by
    rcases Nat.eq_zero_or_pos (mN k) with z | z
    · exact absurd (mN_pos hk (by omega)) (by omega)
    · exact z
  obtain ⟨a, As, ht, eA, lA, eS⟩ := recv_split hn hn1 hrv
  have hc13 := hR.objc ht u9
  obtain ⟨a2, a3, ⟨cell, w1, w2, w3, w4⟩, -⟩ := hR.obj ht hc13
  have hA : ∀ v ∈ (st.take (mN k)).reverse, okv (nx h) v := fun v hv => hst v (List.mem_of_mem_take (List.mem_reverse.mp hv))
  have hM := met_of hk hS hent hA
  obtain ⟨c1, c2, c3, c4, c5, c6, c7, c8, c9⟩ := cB (args := args) (own := cnm (mC mth)) (index := i) hk u8 hKN hd0 g.1 g.2.1
  have eV : (st.take (mN k)).reverse.map (cv bs sb) = .ref (adr bs sb a) :: As.map (cv bs sb) := by rw [eA, List.map_cons, cv_r (show a ≠ 0 by omega)]
  have hfcl : s.vm.findClass (minf k).1.cls = some (D.1 (mC k)) := by
    have := (hKN.2.2.1.1 (mC k) _ (qc_at _ hc13)).2.1
    rw [qc_nm _ hc13, ← u4] at this
    exact this
  have hpre : PreV s H (minf k).1.cls (adr bs sb a) (PcE D dA bs sb scr (st.take (mN k)).reverse h) (As.map (cv bs sb)) := ⟨PcE.blind, ⟨cell, w1, by rw [w3]; rfl, by rw [w2]; exact hfcl⟩, fun U hU hW => ⟨by rw [eV], by rw [hU]; exact hR, hKN.warm hW, by rw [hU]; omega⟩⟩
  have hstk : (F0 m pc L (st.map (cv bs sb))).stack = (As.map (cv bs sb)).reverse ++ .ref (adr bs sb a) :: (st.drop (mN k)).map (cv bs sb) := by
    show st.map (cv bs sb) = _
    conv => lhs; rw [eS]
    rw [List.map_append, List.map_cons, cv_r (show a ≠ 0 by omega), List.map_reverse]
  have hlen : (As.map (cv bs sb)).length = mN k - 1 := by rw [List.length_map, lA]
  have hcatv : 2 * (F0 m pc L (st.map (cv bs sb))).monitorRoom + (((st.drop (mN k)).map (cv bs sb)).map fun v => v.category).sum ≤ 8 := by rw [cat_S]; show 2 * 0 + _ ≤ 8; omega
  have hfix : CallFix p m c (minf mth).2.1 (mML mth) s args GWl (cnm (mC mth)) := ⟨B.1, B.2.1, B.2.2.1, B.2.2.2.1, fun w hw => hKN.1 _ (GWl_mem.mp hw).1 (GWl_mem.mp hw).2 args⟩
  refine ret_of (k := k) (n := mN k) (Aa := (Value.ref (adr bs sb a) :: As.map (cv bs sb)).toArray) B hK hR hz hlo hc hs hc1 hs1 hL hst ?_
  cases nest with
  | true =>
    rw [if_pos rfl] at hw
    exact va_runVN hfix hM ⟨⟨⟨c1, c2, c3, c4, c5, c6⟩, c7, c8, u6, c9, va_Nw.use rfl (hKN.2.1 _ hw rfl)⟩, hKN.1 _ u2 rfl args, hKN.1 _ u3 rfl args⟩ hpre rfl hlen hL.1 hstk hcatv hd ⟨by omega, by omega⟩
  | false =>
    rw [if_neg (by decide)] at hw
    exact va_runV hfix hM ⟨⟨c1, c2, c3, c4, c5, c6, c7, c8, u6, c9, hKN.1 _ hw rfl args⟩, hKN.1 _ u2 rfl args, hKN.1 _ u3 rfl args⟩ hpre rfl hlen hL.1 hstk hcatv hd ⟨by omega, by omega⟩
theorem s_special (B : Bx D dA bs scr p R s m meth c mc ms d mth) {k i : Nat} {st : List PV} (hl : lkF3 (mC mth) i lkM = some k) (hd : decode (minf mth).2.1 pc = .ok (.invokespecial i, 3)) (HC : callP (Wsem l D dA bs sb scr) k 2 3 d rc rs mth pc ls st h q) : Wc l D dA bs sb scr p e R s m args below meth c mc ms rc rs mth pc ls st h q := by
  intro H locs cells slots L hR hz hlo hc hs hL hst
  obtain ⟨hk, hk0, hn, hd0, hc1, hs1, hcat, hent, hrv, q1, hS, hK⟩ := HC
  obtain ⟨u1, u2, u3, u4, u5, u6, u7, u8, u9, u10⟩ := chkW_use hk
  rw [if_neg (by omega)] at u2 u8
  obtain ⟨⟨nest, hw⟩, -⟩ := wd_M hl
  have g := B.2.2.2.2.2.2.2.2
  have hKN := B.2.2.2.2.2.2.2.1
  have hrv := hrv (by decide)
  have hnm := u5.mpr hk0
  have hn1 : 0 < mN k := by
    rcases Nat.eq_zero_or_pos (mN k) with z | z
    · exact absurd (mN_pos hk (by omega)) (by omega)
    · exact z
  obtain ⟨a, As, ht, eA, lA, eS⟩ := recv_split hn hn1 hrv
  have hc13 := hR.objc ht u9
  obtain ⟨a2, a3, ⟨cell, w1, w2, w3, w4⟩, -⟩ := hR.obj ht hc13
  have hret : (minf k).2.2.2.1 = none := (mR_ok k (Nat.le_of_lt hk)).1 (mR_init hk hk0)
  have hA : ∀ v ∈ (st.take (mN k)).reverse, okv (nx h) v := fun v hv => hst v (List.mem_of_mem_take (List.mem_reverse.mp hv))
  have hM := met_of hk hS hent hA
  obtain ⟨c1, c2, c3, c4, c5, c6, c7, c8, c9⟩ := cB (args := args) (own := cnm (mC mth)) (index := i) hk u8 hKN hd0 g.1 g.2.1
  have eV : (st.take (mN k)).reverse.map (cv bs sb) = .ref (adr bs sb a) :: As.map (cv bs sb) := by rw [eA, List.map_cons, cv_r (show a ≠ 0 by omega)]
  have hpre : PreS s H (PcE D dA bs sb scr (st.take (mN k)).reverse h) (.ref (adr bs sb a) :: As.map (cv bs sb)) := ⟨PcE.blind, fun U hU hW => ⟨by rw [eV], by rw [hU]; exact hR, hKN.warm hW, by rw [hU]; omega⟩⟩
  have hstk : (F0 m pc L (st.map (cv bs sb))).stack = (As.map (cv bs sb)).reverse ++ .ref (adr bs sb a) :: (st.drop (mN k)).map (cv bs sb) := by
    show st.map (cv bs sb) = _
    conv => lhs; rw [eS]
    rw [List.map_append, List.map_cons, cv_r (show a ≠ 0 by omega), List.map_reverse]
  have hlen : (As.map (cv bs sb)).length = mN k - 1 := by rw [List.length_map, lA]
  have hcatv : 2 * (F0 m pc L (st.map (cv bs sb))).monitorRoom + (((st.drop (mN k)).map (cv bs sb)).map fun v => v.category).sum ≤ 8 := by rw [cat_S]; show 2 * 0 + _ ≤ 8; omega
  have hfix : CallFix p m c (minf mth).2.1 (mML mth) s args GWl (cnm (mC mth)) := ⟨B.1, B.2.1, B.2.2.1, B.2.2.2.1, fun w hw => hKN.1 _ (GWl_mem.mp hw).1 (GWl_mem.mp hw).2 args⟩
  refine ret_of (k := k) (n := mN k) (Aa := (Value.ref (adr bs sb a) :: As.map (cv bs sb)).toArray) B hK hR hz hlo hc hs hc1 hs1 hL hst ?_
  rw [hret] at c6 c7
  cases nest with
  | true =>
    rw [if_pos rfl] at hw
    exact va_runIN hfix hM ⟨⟨⟨c1, c2, c3, c4, c5, c6⟩, c7, c8, u6, c9, va_Nw.use rfl (hKN.2.1 _ hw rfl)⟩, hnm, hKN.1 _ u2 rfl args⟩ hpre rfl hlen hL.1 hstk hcatv hd ⟨by omega, by omega⟩
  | false =>
    rw [if_neg (by decide)] at hw
    exact va_runI hfix hM ⟨⟨c1, c2, c3, c4, c5, c6, c7, c8, u6, c9, hKN.1 _ hw rfl args⟩, hnm, hKN.1 _ u2 rfl args⟩ hpre rfl hlen hL.1 hstk hcatv hd ⟨by omega, by omega⟩
end SND
