/-! SOUNDNESS, 1: where a method of the program stands, what it knows, and what a pure step asks of the machine -/
def isNest : Jvm.Cond → Bool
  | .fieldLinkNest .. => true
  | .methodLinkNest .. => true
  | .castable .. => true
  | .arrayOver (.object _) => true
  | .arrayOver (.array .int) => true
  | _ => false
/-- the array class over int[] is known as long as classes are alike -/
theorem ao_warm {u U : State} (hvm : u.vm.Alike U.vm) (h : (Jvm.Cond.arrayOver (.array .int)).before #[] u = true) : (Jvm.Cond.arrayOver (.array .int)).before #[] U = true := by
  obtain ⟨comp, c, k, h1, h2, h3, h4, h5⟩ := arrayOver_specB h
  obtain ⟨k', hk', he⟩ := hvm.2.2 _ _ h3
  have e1 := (va_idx_bare U.vm comp).symm
  first | rw [hvm.bare_eq] at e1 | rw [← hvm.bare_eq] at e1
  have hi := e1.trans ((va_idx_bare u.vm comp).trans h2)
  have hkind : k'.kind = .array comp (.array .int) := by rw [he]; exact h4
  have f1 : U.vm.findClass (FieldType.array .int).toString = some comp := by rw [hvm.findClass]; exact h1
  have f2 : U.vm.findClass ("[" ++ (FieldType.array .int).toString) = some c := by rw [hvm.findClass]; exact h5
  unfold Jvm.Cond.before Jvm.Cond.holds
  simp only [Jvm.Cond.value]
  rw [f1, Option.bind_some]
  refine (congrArg (fun o : Option Nat => (o.bind (fun c => (U.vm.classes[c]?).map fun (k : Class) => match k.kind with | .array _ ty => decide (ty = FieldType.array .int) && decide (U.vm.findClass ("[" ++ (FieldType.array .int).toString) = some c) | _ => false) == some true)) hi).trans ?_
  simp [hk', hkind, f2]
def KN (D : va_G) (dA : Nat → ClassId) (scr : Cell) (s : State) : Prop :=
  (∀ w ∈ lw_tbl, goodWord w = true → ∀ a : Array Value, w.before a s = true) ∧ (∀ w ∈ lw_tbl, isNest w = true → va_Nw w s) ∧ va_K D vwCl (tysD dA) s ∧ s.isArrayOf scr .int
theorem KN.warm {D : va_G} {dA : Nat → ClassId} {scr : Cell} {s U : State} (h : KN D dA scr s) (hW : s.WarmedH U.vm) : KN D dA scr U := by
  refine ⟨fun w hw hg a => word_at (args := a) hW (good_of_word hg) (h.1 w hw hg a), fun w hw hn => ?_, va_K.moved hW.alike h.2.2.1, State.isArrayOf_alike hW.alike h.2.2.2⟩
  have h2 := h.2.1 w hw hn
  cases w <;> first | exact va_Nw.warmF hW h2 | exact va_Nw.warmM hW h2 | exact va_Nw.warmC hW h2 | skip
  all_goals first | (cases hn; done) | skip
  rename_i ty
  cases ty <;> first | (cases hn; done) | skip
  · exact va_AO.moved hW.alike h2
  · rename_i ty
    cases ty <;> first | (cases hn; done) | skip
    exact ao_warm hW.alike h2
theorem KN.same {D : va_G} {dA : Nat → ClassId} {scr : Cell} {s U : State} (h : KN D dA scr s) (e : s.vm = U.vm) : KN D dA scr U := by
  have hW : s.WarmedH U.vm := by rw [← e]; exact State.WarmedH.refl s
  exact h.warm hW
def Bx (D : va_G) (dA : Nat → ClassId) (bs : Nat) (scr : Cell) (p : Program) (R : Room) (s : State) (m : MethodId) (meth : Method) (c : Code) (mc ms d mth : Nat) : Prop :=
  p.tables.exec = Jvm.exec ∧ c.code = (minf mth).2.1 ∧ c.maxLocals = mML mth ∧ s.vm.findClass (cnm (mC mth)) = some m.cls ∧ meth.sig.returnType = (minf mth).2.2.2.1 ∧ (mK mth = 2 → meth.name = "<init>") ∧ meth.locks = false ∧ KN D dA scr s ∧
  d ≤ R.frames ∧ 64 * d ≤ R.locals ∧ mc ≤ R.cells ∧ ms ≤ R.slots ∧ R.slots ≤ 7302250 ∧ bs ≤ s.heap.size ∧ mth ≤ M_L_law
def QC (D : va_G) (dA : Nat → ClassId) (bs sb : Nat) (scr : Cell) (q : PQ) : Array Value → State → Outcome → State → Prop := fun _ st o t =>
  ∃ (v : Option PV) (h' : PH), o = .returned (v.map (cv bs sb)) ∧ q v h' ∧ HR D dA bs sb scr h' t.heap ∧ (∀ x, v = some x → okv (nx h') x) ∧ st.heap.size ≤ t.heap.size
def RLo (bs sb : Nat) (n : Int) (ls : List (Option PV)) (L : Array Slot) (nL : Nat) : Prop :=
  L.size = nL ∧ lv_wf L ∧ ls.length = nL ∧ ∀ (k : Nat) (v : PV), ls[k]? = some (some v) → L[k]? = some (.val (cv bs sb v)) ∧ okv n v
def Wc (l : Launch) (D : va_G) (dA : Nat → ClassId) (bs sb : Nat) (scr : Cell) (p : Program) (e : Env) (R : Room) (s : State) (m : MethodId) (args : Array Value) (below : List Frame) (meth : Method) (c : Code) (mc ms rc rs mth pc : Nat) (ls : List (Option PV)) (st : List PV) (h : PH) (q : PQ) : Prop :=
  ∀ (H : Heap) (locs : List Loc) (cells slots : Nat) (L : Array Slot), HR D dA bs sb scr h H → s.heap.size ≤ H.size → (∀ x ∈ locs, bs ≤ x.base) → cells + rc ≤ mc → slots + rs ≤ ms → RLo bs sb (nx h) ls L (mML mth) → (∀ v ∈ st, okv (nx h) v) →
    W p l e R s m args below meth c H locs cells slots (MQ below (QC D dA bs sb scr q) args s mc ms (fun x => bs ≤ x)) (F0 m pc L (st.map (cv bs sb)))
def Wsem (l : Launch) (D : va_G) (dA : Nat → ClassId) (bs sb : Nat) (scr : Cell) : PP := fun d rc rs mth pc ls st h q =>
  ∀ (p : Program) (e : Env) (R : Room) (s : State) (m : MethodId) (args : Array Value) (below : List Frame) (meth : Method) (c : Code) (mc ms : Nat), Bx D dA bs scr p R s m meth c mc ms d mth → Wc l D dA bs sb scr p e R s m args below meth c mc ms rc rs mth pc ls st h q
theorem RLo.mono {bs sb : Nat} {n n' : Int} {ls : List (Option PV)} {L : Array Slot} {nL : Nat} (h : RLo bs sb n ls L nL) (hn : n ≤ n') : RLo bs sb n' ls L nL :=
  ⟨h.1, h.2.1, h.2.2.1, fun k v hk => ⟨(h.2.2.2 k v hk).1, okv_mono hn (h.2.2.2 k v hk).2⟩⟩
/-- the known locals as the kit lists them -/
def lvs (bs sb : Nat) (ls : List (Option PV)) : List (Nat × Value) := (List.range ls.length).filterMap fun j => match ls[j]? with
  | some (some v) => some (j, cv bs sb v)
  | _ => none
theorem lvs_mem {bs sb : Nat} {ls : List (Option PV)} {j : Nat} {v : PV} (h : ls[j]? = some (some v)) : (j, cv bs sb v) ∈ lvs bs sb ls := by
  refine List.mem_filterMap.mpr ⟨j, List.mem_range.mpr (List.getElem?_eq_some_iff.mp h).1, ?_⟩
  rw [h]
theorem RLo.has {bs sb : Nat} {n : Int} {ls : List (Option PV)} {L : Array Slot} {nL : Nat} (h : RLo bs sb n ls L nL) : lv_has L nL (lvs bs sb ls) := by
  refine ⟨h.1, h.2.1, fun q hq => ?_⟩
  obtain ⟨j, -, hj⟩ := List.mem_filterMap.mp hq
  cases hv : ls[j]? with
  | none => rw [hv] at hj; cases hj
  | some o =>
    cases o with
    | none => rw [hv] at hj; cases hj
    | some v =>
      rw [hv] at hj
      cases hj
      exact (h.2.2.2 j v hv).1
theorem cat_1 {bs sb : Nat} {v : PV} (h : ∀ x, v ≠ .inr (.inl x)) : (cv bs sb v).category = 1 := by
  rcases v with x | x | a
  · rfl
  · exact absurd rfl (h x)
  · show (if a = 0 then Value.null else Value.ref (adr bs sb a)).category = 1
    split <;> rfl
theorem cat_S {bs sb : Nat} : ∀ st : List PV, ((st.map (cv bs sb)).map fun v => v.category).sum = catS st
  | [] => rfl
  | .inl x :: r => by simp only [List.map_cons, List.sum_cons, cat_S r, catS]; rfl
  | .inr (.inl x) :: r => by simp only [List.map_cons, List.sum_cons, cat_S r, catS]; rfl
  | .inr (.inr a) :: r => by
    simp only [List.map_cons, List.sum_cons, cat_S r, catS]
    rw [cat_1 (v := .inr (.inr a)) (fun x e => by cases e)]
theorem st1_get {ls : List (Option PV)} {k : Nat} {v w : PV} {j : Nat} (h : (st1 ls k v)[j]? = some (some w)) : (j = k ∧ w = v) ∨ (j ≠ k ∧ ls[j]? = some (some w) ∧ (j + 1 = k → ∀ x, w ≠ .inr (.inl x))) := by
  by_cases hj : j = k
  · subst hj
    refine Or.inl ⟨rfl, ?_⟩
    unfold st1 at h
    split at h
    · rw [List.getElem?_set] at h
      split at h
      · split at h
        · exact (Option.some.inj (Option.some.inj h)).symm
        · cases h
      · omega
    · split at h <;> (rw [List.getElem?_set] at h; split at h)
      · split at h
        · exact (Option.some.inj (Option.some.inj h)).symm
        · cases h
      · omega
      · split at h
        · exact (Option.some.inj (Option.some.inj h)).symm
        · cases h
      · omega
  · refine Or.inr ⟨hj, ?_⟩
    unfold st1 at h
    split at h
    · rw [List.getElem?_set_ne (by omega)] at h
      exact ⟨h, fun e => by omega⟩
    · rename_i i
      split at h
      · rename_i x hx
        rw [List.getElem?_set_ne (by omega)] at h
        by_cases hi : j = i
        · subst hi
          rw [List.getElem?_set] at h
          split at h
          · split at h <;> cases h
          · omega
        · rw [List.getElem?_set_ne (by omega)] at h
          exact ⟨h, fun e => by omega⟩
      · rename_i hx
        rw [List.getElem?_set_ne (by omega)] at h
        refine ⟨h, fun e x hw => ?_⟩
        have : j = i := by omega
        subst this
        subst hw
        exact hx x h
theorem st1_len (ls : List (Option PV)) (k : Nat) (v : PV) : (st1 ls k v).length = ls.length := by
  unfold st1; split
  · simp
  · split <;> simp
theorem RLo.sto1 {bs sb : Nat} {n : Int} {ls : List (Option PV)} {L L' : Array Slot} {nL k : Nat} {v : PV} (h : RLo bs sb n ls L nL) (hv : okv n v)
    (h' : lv_has L' nL ((k, cv bs sb v) :: (lvs bs sb ls).filter (fun q => !(q.1 == k) && !(q.1 + 1 == k && q.2.category == 2)))) : RLo bs sb n (st1 ls k v) L' nL := by
  refine ⟨h'.1, h'.2.1, by rw [st1_len]; exact h.2.2.1, fun j w hw => ?_⟩
  rcases st1_get hw with ⟨rfl, rfl⟩ | ⟨hj, hl, hc⟩
  · exact ⟨h'.2.2 _ List.mem_cons_self, hv⟩
  · refine ⟨h'.2.2 (j, cv bs sb w) (List.mem_cons_of_mem _ (List.mem_filter.mpr ⟨lvs_mem hl, ?_⟩)), (h.2.2.2 j w hl).2⟩
    by_cases e : j + 1 = k
    · have := cat_1 (bs := bs) (sb := sb) (hc e)
      simp [hj, this]
    · simp [hj, e]
theorem RLo.sto2 {bs sb : Nat} {n : Int} {ls : List (Option PV)} {L L' : Array Slot} {nL k : Nat} {x : Int} (h : RLo bs sb n ls L nL) (hv : i64 x)
    (h' : lv_has L' nL ((k, .long (Int64.ofInt x)) :: (lvs bs sb ls).filter (fun q => !(q.1 == k) && (!(q.1 == k + 1) && !(q.1 + 1 == k && q.2.category == 2))))) : RLo bs sb n (st2 ls k x) L' nL := by
  refine ⟨h'.1, h'.2.1, by unfold st2; rw [List.length_set, st1_len]; exact h.2.2.1, fun j w hw => ?_⟩
  unfold st2 at hw
  by_cases hk : j = k + 1
  · subst hk
    rw [List.getElem?_set] at hw
    split at hw
    · split at hw <;> cases hw
    · omega
  · rw [List.getElem?_set_ne (by omega)] at hw
    rcases st1_get hw with ⟨rfl, rfl⟩ | ⟨hj, hl, hc⟩
    · exact ⟨h'.2.2 _ List.mem_cons_self, hv⟩
    · refine ⟨h'.2.2 (j, cv bs sb w) (List.mem_cons_of_mem _ (List.mem_filter.mpr ⟨lvs_mem hl, ?_⟩)), (h.2.2.2 j w hl).2⟩
      by_cases e : j + 1 = k
      · have := cat_1 (bs := bs) (sb := sb) (hc e)
        simp [hj, hk, this]
      · simp [hj, hk, e]
theorem lk_mem {pc : Nat} : ∀ {l : List (Nat × Instr × Nat)} {x : Instr × Nat}, lk pc l = some x → (pc, x) ∈ l
  | [], _, h => by cases h
  | e :: r, x, h => by
    unfold lk at h
    cases hb : Nat.beq e.1 pc with
    | true =>
      rw [hb] at h
      have e1 : e.2 = x := Option.some.inj h
      have e2 : e.1 = pc := Nat.eq_of_beq_eq_true hb
      rw [← e1, ← e2]
      exact List.mem_cons_self
    | false =>
      rw [hb] at h
      exact List.mem_cons_of_mem _ (lk_mem h)
theorem code_raw {mth pc n : Nat} {i : Instr} (hm : mth ≤ M_L_law) (hc : codeAt mth pc = some (i, n)) : ∃ raw, decode (minf mth).2.1 pc = .ok (raw, n) ∧ n = ilen n raw ∧ cnv (mC mth) pc raw = some i := by
  have h1 := lk_mem hc
  have h2 := List.all_eq_true.mp (chk_all mth hm) _ h1
  unfold chk1 at h2
  split at h2
  · rename_i raw n' hd
    simp only [Bool.and_eq_true, beq_iff_eq, decide_eq_true_eq] at h2
    obtain ⟨⟨e1, e2⟩, e3⟩ := h2
    subst e1
    exact ⟨raw, hd, e2, e3⟩
  · cases h2
theorem lkF3_mem {own ix : Nat} : ∀ {l : List (Nat × Nat × Nat × Bool × Nat)} {x : Nat}, lkF3 own ix l = some x → ∃ e ∈ l, e.1 = own ∧ e.2.1 = ix ∧ e.2.2.1 = x
  | [], _, h => by cases h
  | e :: r, x, h => by
    unfold lkF3 at h
    split at h
    · exact ⟨e, List.mem_cons_self, by rename_i q; exact q.1, by rename_i q; exact q.2, Option.some.inj h⟩
    · obtain ⟨e', h1, h2⟩ := lkF3_mem h
      exact ⟨e', List.mem_cons_of_mem _ h1, h2⟩
theorem lkC3_mem {own ix : Nat} : ∀ {l : List (Nat × Nat × Nat × Nat)} {x : Nat}, lkC3 own ix l = some x → ∃ e ∈ l, e.1 = own ∧ e.2.1 = ix ∧ e.2.2.1 = x
  | [], _, h => by cases h
  | e :: r, x, h => by
    unfold lkC3 at h
    split at h
    · exact ⟨e, List.mem_cons_self, by rename_i q; exact q.1, by rename_i q; exact q.2, Option.some.inj h⟩
    · obtain ⟨e', h1, h2⟩ := lkC3_mem h
      exact ⟨e', List.mem_cons_of_mem _ h1, h2⟩
theorem lkI3_mem {own ix : Nat} : ∀ {l : List (Nat × Nat × Int × Nat)} {x : Int}, lkI3 own ix l = some x → ∃ e ∈ l, e.1 = own ∧ e.2.1 = ix ∧ e.2.2.1 = x
  | [], _, h => by cases h
  | e :: r, x, h => by
    unfold lkI3 at h
    split at h
    · exact ⟨e, List.mem_cons_self, by rename_i q; exact q.1, by rename_i q; exact q.2, Option.some.inj h⟩
    · obtain ⟨e', h1, h2⟩ := lkI3_mem h
      exact ⟨e', List.mem_cons_of_mem _ h1, h2⟩
theorem lkO3_mem {own ix : Nat} : ∀ {l : List (Nat × Nat × Nat)}, lkO3 own ix l = true → ∃ e ∈ l, e.1 = own ∧ e.2.1 = ix
  | [], h => by cases h
  | e :: r, h => by
    unfold lkO3 at h
    split at h
    · exact ⟨e, List.mem_cons_self, by rename_i q; exact q.1, by rename_i q; exact q.2⟩
    · obtain ⟨e', h1, h2⟩ := lkO3_mem h
      exact ⟨e', List.mem_cons_of_mem _ h1, h2⟩
theorem wd_F {own ix f : Nat} (h : lkF3 own ix lkF = some f) : (∃ nest : Bool, (if nest then Jvm.Cond.fieldLinkNest (cnm own) ix (fT f).1 (fT f).2.1 (fT f).2.2.1 "SquadronFlags" else Jvm.Cond.fieldLink (cnm own) ix (fT f).1 (fT f).2.1 (fT f).2.2.1) ∈ lw_tbl) ∧ f / 100 < 13 ∧ f % 100 < fN (f / 100) := by
  obtain ⟨e, h1, rfl, rfl, rfl⟩ := lkF3_mem h
  have h2 := List.all_eq_true.mp chk_F e h1
  simp only [Bool.and_eq_true, decide_eq_true_eq] at h2
  exact ⟨⟨e.2.2.2.1, List.mem_of_getElem? h2.1⟩, h2.2⟩
theorem wd_M {own ix k : Nat} (h : lkF3 own ix lkM = some k) : (∃ nest : Bool, (if nest then Jvm.Cond.methodLinkNest (cnm own) ix (minf k).1 "SquadronFlags" else Jvm.Cond.methodLink (cnm own) ix (minf k).1) ∈ lw_tbl) ∧ k < M_L_law := by
  obtain ⟨e, h1, rfl, rfl, rfl⟩ := lkF3_mem h
  have h2 := List.all_eq_true.mp chk_M e h1
  simp only [Bool.and_eq_true, decide_eq_true_eq] at h2
  exact ⟨⟨e.2.2.2.1, List.mem_of_getElem? h2.1⟩, h2.2⟩
theorem wd_C {own ix k : Nat} (h : lkC3 own ix lkC = some k) : Jvm.Cond.classLink (cnm own) ix (cnm k) ∈ lw_tbl ∧ k < 13 := by
  obtain ⟨e, h1, rfl, rfl, rfl⟩ := lkC3_mem h
  have h2 := List.all_eq_true.mp chk_C e h1
  simp only [Bool.and_eq_true, decide_eq_true_eq] at h2
  exact ⟨List.mem_of_getElem? h2.1, h2.2⟩
theorem wd_I {own ix : Nat} {k : Int} (h : lkI3 own ix lkI = some k) : Jvm.Cond.constant (cnm own) ix (Int32.ofInt k) ∈ lw_tbl ∧ i32 k := by
  obtain ⟨e, h1, rfl, rfl, rfl⟩ := lkI3_mem h
  have h2 := List.all_eq_true.mp chk_I e h1
  simp only [Bool.and_eq_true, decide_eq_true_eq] at h2
  exact ⟨List.mem_of_getElem? h2.1, h2.2⟩
theorem wd_J {own ix : Nat} {k : Int} (h : lkI3 own ix lkJ = some k) : Jvm.Cond.constantLong (cnm own) ix (Int64.ofInt k) ∈ lw_tbl ∧ i64 k := by
  obtain ⟨e, h1, rfl, rfl, rfl⟩ := lkI3_mem h
  have h2 := List.all_eq_true.mp chk_J e h1
  simp only [Bool.and_eq_true, decide_eq_true_eq] at h2
  exact ⟨List.mem_of_getElem? h2.1, h2.2⟩
theorem wd_O {own ix : Nat} (h : lkO3 own ix lkO = true) : Jvm.Cond.methodLink (cnm own) ix Lib.objectInit ∈ lw_tbl := by
  obtain ⟨e, h1, rfl, rfl⟩ := lkO3_mem h
  have h2 := List.all_eq_true.mp chk_O e h1
  simp only [decide_eq_true_eq] at h2
  exact List.mem_of_getElem? h2
theorem wd_A {own ix : Nat} (h : lkO3 own ix lkA = true) : Jvm.Cond.methodLink (cnm own) ix arraycopyName ∈ lw_tbl := by
  obtain ⟨e, h1, rfl, rfl⟩ := lkO3_mem h
  have h2 := List.all_eq_true.mp chk_A e h1
  simp only [decide_eq_true_eq] at h2
  exact List.mem_of_getElem? h2
theorem wd_X2 {own ix : Nat} (h : lkO3 own ix lkX2 = true) : Jvm.Cond.methodLink (cnm own) ix Lib.Math.min.name ∈ lw_tbl := by
  obtain ⟨e, h1, rfl, rfl⟩ := lkO3_mem h
  have h2 := List.all_eq_true.mp chk_X2 e h1
  simp only [decide_eq_true_eq] at h2
  exact List.mem_of_getElem? h2
theorem wd_X3 {own ix : Nat} (h : lkO3 own ix lkX3 = true) : Jvm.Cond.methodLink (cnm own) ix Lib.MathLoose.max_long.x ∈ lw_tbl := by
  obtain ⟨e, h1, rfl, rfl⟩ := lkO3_mem h
  have h2 := List.all_eq_true.mp chk_X3 e h1
  simp only [decide_eq_true_eq] at h2
  exact List.mem_of_getElem? h2
theorem wd_X4 {own ix : Nat} (h : lkO3 own ix lkX4 = true) : Jvm.Cond.methodLink (cnm own) ix Lib.MathLoose.min_long.x ∈ lw_tbl := by
  obtain ⟨e, h1, rfl, rfl⟩ := lkO3_mem h
  have h2 := List.all_eq_true.mp chk_X4 e h1
  simp only [decide_eq_true_eq] at h2
  exact List.mem_of_getElem? h2
theorem wd_N {own ix : Nat} (h : lkO3 own ix lkN = true) : Jvm.Cond.methodLink (cnm own) ix ⟨"[I", "clone", "()Ljava/lang/Object;"⟩ ∈ lw_tbl := by
  obtain ⟨e, h1, rfl, rfl⟩ := lkO3_mem h
  have h2 := List.all_eq_true.mp chk_N e h1
  simp only [decide_eq_true_eq] at h2
  exact List.mem_of_getElem? h2
theorem wd_V {own ix : Nat} (h : lkO3 own ix lkV = true) : Jvm.Cond.classLink (cnm own) ix "[I" ∈ lw_tbl := by
  obtain ⟨e, h1, rfl, rfl⟩ := lkO3_mem h
  have h2 := List.all_eq_true.mp chk_V e h1
  simp only [decide_eq_true_eq] at h2
  exact List.mem_of_getElem? h2
theorem wd_W {own ix : Nat} (h : lkO3 own ix lkW = true) : Jvm.Cond.classLink (cnm own) ix "[[I" ∈ lw_tbl := by
  obtain ⟨e, h1, rfl, rfl⟩ := lkO3_mem h
  have h2 := List.all_eq_true.mp chk_W e h1
  simp only [decide_eq_true_eq] at h2
  exact List.mem_of_getElem? h2
